set_option maxRecDepth 20000 in
theorem M_guaranteed (K : GK) {M : Nat} {sc : Nat → Int32} {ar : Nat → Nat → Int32} {σ0 : GS} {L : List Nat} {z : Nat} (hD : mdom M L) {w h : Nat} (hB : mB sc w h) {p dp : Nat} {ch : Int32} (hp : p ≤ 1) (hch : chOK (w * h) ch) (hdp : dp ≤ 2) : gM K yX8_guaranteed cX8_guaranteed 4 (some .int) 11 0 0 [.ref M, .int (nI p), .int ch, .int (nI dp)] z L (mdl K M sc ar σ0) (fun r z1 L1 σ2 => r = some (.int (gvF w h (sc 3) (ar 4) p (ar 5) ch dp)) ∧ z1 = z ∧ L1 = L ∧ ∃ (x y u : Int32) (e cb f s : Nat → Int32), σ2 = mdl K M (scS sc x y u) (arX ar (ar 5) e cb f s) σ0) := by
  obtain ⟨hw, hh, hw1, hw2, hh1, hh2⟩ := id hB
  have hn : w * h ≤ 49 := Nat.mul_le_mul hw2 hh2
  have hn1 : 16 ≤ w * h := Nat.mul_le_mul hw1 hh1
  refine g_intro [some (.ref M), some (.int (nI p)), some (.int ch), some (.int (nI dp))] (fun Γ hC => ?_) (by simp [g_en, lv_args, Value.category])
  refine g_iload_n (n := 1) hC rfl dX8_guaranteed_0 ?_
  refine g_iconst (n := 2) (v := (nI 1)) hC (by decide) dX8_guaranteed_1 ?_
  refine g_icmp_neN (n := 5) (tgt := 14) hC (by omega) (by omega) dX8_guaranteed_2 (fun h2 => ?_) (fun h2 => ?_)
  ·
    refine g_aload_n (n := 15) hC rfl dX8_guaranteed_14 ?_
    refine g_iload_n (n := 16) hC rfl dX8_guaranteed_15 ?_
    refine g_iload_n (n := 17) hC rfl dX8_guaranteed_16 ?_
    refine g_callV hC gv_X8_213 (M_far K hD hB (p := p) hp hch) (hD 0 (by decide)) mdl_0 (by rfl) (by decide) (by decide) (by rfl) (by rfl) (Nat.le_of_ble_eq_true rfl) (by exact ⟨Nat.le_refl _, Nat.le_refl _⟩) dX8_guaranteed_17 (fun rv9 z9 L9 σ9 hp9 => ?_)
    obtain ⟨rfl, hz9, hL9, x_n1, y_n1, u_n1, e_n1, cb_n1, f_n1, s_n1, hs9⟩ := hp9
    rw [hz9, hL9, hs9]
    refine G.eqs (show _ = mdl K M (scS sc x_n1 y_n1 u_n1) (arX ar (ar 5) e_n1 cb_n1 f_n1 s_n1) σ0 from rfl) ?_
    show G K Γ (z, 0, 0, L) (mdl K M (scS sc x_n1 y_n1 u_n1) (arX ar (ar 5) e_n1 cb_n1 f_n1 s_n1) σ0) 20 [some (.ref M), some (.int (nI p)), some (.int ch), some (.int (nI dp))] [.int (frF w h (sc 3) (ar 4) p (ar 5) ch (w * h + 1))]
    exact g_iret hC dX8_guaranteed_20 (⟨rI (if_neg h2).symm, rfl, rfl, x_n1, y_n1, u_n1, e_n1, cb_n1, f_n1, s_n1, rfl⟩)
  ·
    refine g_aload_n (n := 6) hC rfl dX8_guaranteed_5 ?_
    refine g_iload_n (n := 7) hC rfl dX8_guaranteed_6 ?_
    refine g_iload_n (n := 8) hC rfl dX8_guaranteed_7 ?_
    refine g_callV hC gv_X8_206 (M_near K hD hB (p := p) hp hch) (hD 0 (by decide)) mdl_0 (by rfl) (by decide) (by decide) (by rfl) (by rfl) (Nat.le_of_ble_eq_true rfl) (by exact ⟨Nat.le_refl _, Nat.le_refl _⟩) dX8_guaranteed_8 (fun rv9 z9 L9 σ9 hp9 => ?_)
    obtain ⟨rfl, hz9, hL9, x_n2, y_n2, u_n2, e_n2, cb_n2, s_n2, hs9⟩ := hp9
    rw [hz9, hL9, hs9]
    refine G.eqs (show _ = mdl K M (scS sc x_n2 y_n2 u_n2) (arX ar (ar 5) e_n2 cb_n2 (ar 6) s_n2) σ0 from rfl) ?_
    show G K Γ (z, 0, 0, L) (mdl K M (scS sc x_n2 y_n2 u_n2) (arX ar (ar 5) e_n2 cb_n2 (ar 6) s_n2) σ0) 11 [some (.ref M), some (.int (nI p)), some (.int ch), some (.int (nI dp))] [.int (nrF w h (sc 3) (ar 4) p (ar 5) ch (w * h + 1))]
    refine g_goto (n := 20) hC dX8_guaranteed_11 ?_
    exact g_iret hC dX8_guaranteed_20 (⟨rI (if_pos h2).symm, rfl, rfl, x_n2, y_n2, u_n2, e_n2, cb_n2, (ar 6), s_n2, rfl⟩)

set_option maxRecDepth 20000 in
theorem M_guarantee (K : GK) {M : Nat} {sc : Nat → Int32} {ar : Nat → Nat → Int32} {σ0 : GS} {L : List Nat} {z : Nat} (hD : mdom M L) {w h : Nat} (hB : mB sc w h) {p ch dp : Int32} : gM K yX8_guarantee cX8_guarantee 4 (some .int) 12 0 0 [.ref M, .int p, .int ch, .int dp] z L (mdl K M sc ar σ0) (fun r z1 L1 σ2 => z1 = z ∧ L1 = L ∧ ((¬ (inR 0 1 p ∧ chOK (w * h) ch) ∧ r = some (.int (nI 0)) ∧ σ2 = mdl K M (va_up sc 0 (nI 1)) ar σ0) ∨ (inR 0 1 p ∧ chOK (w * h) ch ∧ ¬ inR 1 2 dp ∧ r = some (.int (nI 0)) ∧ σ2 = mdl K M (va_up sc 0 (nI 2)) ar σ0) ∨ (∃ p0 d0, p0 ≤ 1 ∧ 1 ≤ d0 ∧ d0 ≤ 2 ∧ p = nI p0 ∧ dp = nI d0 ∧ chOK (w * h) ch ∧ (ovF (ar 5) (w * h) ∨ ¬ mayF (ar 5) ch ∨ (d0 = 2 ∧ 6 < mny (ar 5) (w * h) (nI 0))) ∧ r = some (.int (nI 0)) ∧ σ2 = mdl K M (va_up sc 0 (nI 3)) ar σ0) ∨ (∃ p0 d0, p0 ≤ 1 ∧ 1 ≤ d0 ∧ d0 ≤ 2 ∧ p = nI p0 ∧ dp = nI d0 ∧ chOK (w * h) ch ∧ ¬ ovF (ar 5) (w * h) ∧ mayF (ar 5) ch ∧ ¬ (d0 = 2 ∧ 6 < mny (ar 5) (w * h) (nI 0)) ∧ r = some (.int (gvF w h (sc 3) (ar 4) p0 (ar 5) ch d0)) ∧ ∃ (x y u : Int32) (e cb f s : Nat → Int32), σ2 = mdl K M (scS (va_up sc 0 (nI 0)) x y u) (arX ar (ar 5) e cb f s) σ0))) := by
  obtain ⟨hw, hh, hw1, hw2, hh1, hh2⟩ := id hB
  have hn : w * h ≤ 49 := Nat.mul_le_mul hw2 hh2
  have hn1 : 16 ≤ w * h := Nat.mul_le_mul hw1 hh1
  have hb9 : mny (ar 5) (w * h) (nI 0) ≤ w * h := ct_le _ _
  refine g_intro [some (.ref M), some (.int p), some (.int ch), some (.int dp)] (fun Γ hC => ?_) (by simp [g_en, lv_args, Value.category])
  refine g_aload_n (n := 1) hC rfl dX8_guarantee_0 ?_
  refine g_iload_n (n := 2) hC rfl dX8_guarantee_1 ?_
  refine g_iconst (n := 3) (v := (nI 0)) hC (by decide) dX8_guarantee_2 ?_
  refine g_iconst (n := 4) (v := (nI 1)) hC (by decide) dX8_guarantee_3 ?_
  refine g_cS (n := 7) hC gs_X8_80 (M_isInN K hD 0 1 (by omega) (by omega)) dX8_guarantee_4 ?_
  refine g_ifb_eq (n := 10) (tgt := 18) hC dX8_guarantee_7 (fun h7 => ?_) (fun h7 => ?_)
  ·
    refine g_iconst (n := 19) (v := (nI 1)) hC (by decide) dX8_guarantee_18 ?_
    refine g_goto (n := 69) hC dX8_guarantee_19 ?_
    refine m_put0 (n := 72) hC hD gp_X8_73 dX8_guarantee_69 ?_
    refine g_aload_n (n := 73) hC rfl dX8_guarantee_72 ?_
    refine m_get (v := .int (nI 1)) (n := 76) hC hD gf_X8_73 dX8_guarantee_73 rfl ?_
    refine g_if_ne (n := 79) (tgt := 89) hC dX8_guarantee_76 (fun _ => ?_) (fun h9 => absurd h9 (by decide))
    refine g_iconst (n := 90) (v := (nI 0)) hC (by decide) dX8_guarantee_89 ?_
    exact g_iret hC dX8_guarantee_90 (⟨rfl, rfl, (Or.inl ⟨fun q => h7 q.1, rfl, rfl⟩)⟩)
  ·
    obtain ⟨p0, hp0, hp1, rfl⟩ := h7
    refine g_aload_n (n := 11) hC rfl dX8_guarantee_10 ?_
    refine g_iload_n (n := 12) hC rfl dX8_guarantee_11 ?_
    refine g_cV (n := 15) hC gv_X8_167 (hD 0 (by decide)) mdl_0 (M_isChoiceN K hD hB) dX8_guarantee_12 ?_
    refine g_ifb_ne (n := 18) (tgt := 22) hC dX8_guarantee_15 (fun h15 => ?_) (fun h15 => ?_)
    ·
      refine g_iload_n (n := 23) hC rfl dX8_guarantee_22 ?_
      refine g_iconst (n := 24) (v := (nI 1)) hC (by decide) dX8_guarantee_23 ?_
      refine g_iconst (n := 25) (v := (nI 2)) hC (by decide) dX8_guarantee_24 ?_
      refine g_cS (n := 28) hC gs_X8_80 (M_isInN K hD 1 2 (by omega) (by omega)) dX8_guarantee_25 ?_
      refine g_ifb_ne (n := 31) (tgt := 35) hC dX8_guarantee_28 (fun h28 => ?_) (fun h28 => ?_)
      ·
        obtain ⟨d0, hd0, hd1, rfl⟩ := h28
        refine g_aload_n (n := 36) hC rfl dX8_guarantee_35 ?_
        refine g_cV (n := 39) hC gv_X8_170 (hD 0 (by decide)) mdl_0 (M_over K hD hB) dX8_guarantee_36 ?_
        refine g_ifb_ne (n := 42) (tgt := 64) hC dX8_guarantee_39 (fun h39 => ?_) (fun h39 => ?_)
        ·
          refine g_iconst (n := 65) (v := (nI 3)) hC (by decide) dX8_guarantee_64 ?_
          refine g_goto (n := 69) hC dX8_guarantee_65 ?_
          refine m_put0 (n := 72) hC hD gp_X8_73 dX8_guarantee_69 ?_
          refine g_aload_n (n := 73) hC rfl dX8_guarantee_72 ?_
          refine m_get (v := .int (nI 3)) (n := 76) hC hD gf_X8_73 dX8_guarantee_73 rfl ?_
          refine g_if_ne (n := 79) (tgt := 89) hC dX8_guarantee_76 (fun _ => ?_) (fun h9 => absurd h9 (by decide))
          refine g_iconst (n := 90) (v := (nI 0)) hC (by decide) dX8_guarantee_89 ?_
          exact g_iret hC dX8_guarantee_90 (⟨rfl, rfl, (Or.inr (Or.inr (Or.inl ⟨p0, d0, hp1, hd0, hd1, rfl, rfl, h15, Or.inl h39, rfl, rfl⟩)))⟩)
        ·
          refine g_aload_n (n := 43) hC rfl dX8_guarantee_42 ?_
          refine g_iload_n (n := 44) hC rfl dX8_guarantee_43 ?_
          refine g_cV (n := 47) hC gv_X8_157 (hD 0 (by decide)) mdl_0 (M_mayChoose K hD hB (x := ch) (h15)) dX8_guarantee_44 ?_
          refine g_ifb_eq (n := 50) (tgt := 64) hC dX8_guarantee_47 (fun h47 => ?_) (fun h47 => ?_)
          ·
            refine g_iconst (n := 65) (v := (nI 3)) hC (by decide) dX8_guarantee_64 ?_
            refine g_goto (n := 69) hC dX8_guarantee_65 ?_
            refine m_put0 (n := 72) hC hD gp_X8_73 dX8_guarantee_69 ?_
            refine g_aload_n (n := 73) hC rfl dX8_guarantee_72 ?_
            refine m_get (v := .int (nI 3)) (n := 76) hC hD gf_X8_73 dX8_guarantee_73 rfl ?_
            refine g_if_ne (n := 79) (tgt := 89) hC dX8_guarantee_76 (fun _ => ?_) (fun h9 => absurd h9 (by decide))
            refine g_iconst (n := 90) (v := (nI 0)) hC (by decide) dX8_guarantee_89 ?_
            exact g_iret hC dX8_guarantee_90 (⟨rfl, rfl, (Or.inr (Or.inr (Or.inl ⟨p0, d0, hp1, hd0, hd1, rfl, rfl, h15, Or.inr (Or.inl h47), rfl, rfl⟩)))⟩)
          ·
            refine g_iload_n (n := 51) hC rfl dX8_guarantee_50 ?_
            refine g_iconst (n := 52) (v := (nI 2)) hC (by decide) dX8_guarantee_51 ?_
            refine g_icmp_neN (n := 55) (tgt := 68) hC (by omega) (by omega) dX8_guarantee_52 (fun h52 => ?_) (fun h52 => ?_)
            ·
              refine g_iconst (n := 69) (v := (nI 0)) hC (by decide) dX8_guarantee_68 ?_
              refine m_put0 (n := 72) hC hD gp_X8_73 dX8_guarantee_69 ?_
              refine g_aload_n (n := 73) hC rfl dX8_guarantee_72 ?_
              refine m_get (v := .int (nI 0)) (n := 76) hC hD gf_X8_73 dX8_guarantee_73 rfl ?_
              refine g_if_ne (n := 79) (tgt := 89) hC dX8_guarantee_76 (fun h9 => absurd h9 (by decide)) (fun _ => ?_)
              refine g_aload_n (n := 80) hC rfl dX8_guarantee_79 ?_
              refine g_iload_n (n := 81) hC rfl dX8_guarantee_80 ?_
              refine g_iload_n (n := 82) hC rfl dX8_guarantee_81 ?_
              refine g_iload_n (n := 83) hC rfl dX8_guarantee_82 ?_
              refine g_callV hC gv_X8_216 (M_guaranteed K hD (show mB (va_up sc 0 (nI 0)) w h from hB) (p := p0) (dp := d0) (ch := ch) hp1 (h15) (by omega)) (hD 0 (by decide)) mdl_0 (by rfl) (by decide) (by decide) (by rfl) (by rfl) (Nat.le_of_ble_eq_true rfl) (by exact ⟨Nat.le_refl _, Nat.le_refl _⟩) dX8_guarantee_83 (fun rv9 z9 L9 σ9 hp9 => ?_)
              obtain ⟨rfl, hz9, hL9, x_n1, y_n1, u_n1, e_n1, cb_n1, f_n1, s_n1, hs9⟩ := hp9
              rw [hz9, hL9, hs9]
              refine G.eqs (show _ = mdl K M (scS (va_up sc 0 (nI 0)) x_n1 y_n1 u_n1) (arX ar (ar 5) e_n1 cb_n1 f_n1 s_n1) σ0 from (by first | rfl | (rw [scS_scS, arX_X]; rfl))) ?_
              show G K Γ (z, 0, 0, L) (mdl K M (scS (va_up sc 0 (nI 0)) x_n1 y_n1 u_n1) (arX ar (ar 5) e_n1 cb_n1 f_n1 s_n1) σ0) 86 [some (.ref M), some (.int (nI p0)), some (.int ch), some (.int (nI d0))] [.int (gvF w h (sc 3) (ar 4) p0 (ar 5) ch d0)]
              refine g_goto (n := 90) hC dX8_guarantee_86 ?_
              exact g_iret hC dX8_guarantee_90 (⟨rfl, rfl, (Or.inr (Or.inr (Or.inr ⟨p0, d0, hp1, hd0, hd1, rfl, rfl, h15, h39, h47, fun q => h52 q.1, rfl, x_n1, y_n1, u_n1, e_n1, cb_n1, f_n1, s_n1, rfl⟩)))⟩)
            ·
              refine g_aload_n (n := 56) hC rfl dX8_guarantee_55 ?_
              refine g_cV (n := 59) hC gv_X8_108 (hD 0 (by decide)) mdl_0 (M_emptyCells K hD hB) dX8_guarantee_56 ?_
              refine g_bipush (n := 61) (v := (nI 6)) hC (by decide) dX8_guarantee_59 ?_
              refine g_icmp_leN (n := 64) (tgt := 68) hC (by omega) (by omega) dX8_guarantee_61 (fun h61 => ?_) (fun h61 => ?_)
              ·
                refine g_iconst (n := 69) (v := (nI 0)) hC (by decide) dX8_guarantee_68 ?_
                refine m_put0 (n := 72) hC hD gp_X8_73 dX8_guarantee_69 ?_
                refine g_aload_n (n := 73) hC rfl dX8_guarantee_72 ?_
                refine m_get (v := .int (nI 0)) (n := 76) hC hD gf_X8_73 dX8_guarantee_73 rfl ?_
                refine g_if_ne (n := 79) (tgt := 89) hC dX8_guarantee_76 (fun h9 => absurd h9 (by decide)) (fun _ => ?_)
                refine g_aload_n (n := 80) hC rfl dX8_guarantee_79 ?_
                refine g_iload_n (n := 81) hC rfl dX8_guarantee_80 ?_
                refine g_iload_n (n := 82) hC rfl dX8_guarantee_81 ?_
                refine g_iload_n (n := 83) hC rfl dX8_guarantee_82 ?_
                refine g_callV hC gv_X8_216 (M_guaranteed K hD (show mB (va_up sc 0 (nI 0)) w h from hB) (p := p0) (dp := d0) (ch := ch) hp1 (h15) (by omega)) (hD 0 (by decide)) mdl_0 (by rfl) (by decide) (by decide) (by rfl) (by rfl) (Nat.le_of_ble_eq_true rfl) (by exact ⟨Nat.le_refl _, Nat.le_refl _⟩) dX8_guarantee_83 (fun rv9 z9 L9 σ9 hp9 => ?_)
                obtain ⟨rfl, hz9, hL9, x_n2, y_n2, u_n2, e_n2, cb_n2, f_n2, s_n2, hs9⟩ := hp9
                rw [hz9, hL9, hs9]
                refine G.eqs (show _ = mdl K M (scS (va_up sc 0 (nI 0)) x_n2 y_n2 u_n2) (arX ar (ar 5) e_n2 cb_n2 f_n2 s_n2) σ0 from (by first | rfl | (rw [scS_scS, arX_X]; rfl))) ?_
                show G K Γ (z, 0, 0, L) (mdl K M (scS (va_up sc 0 (nI 0)) x_n2 y_n2 u_n2) (arX ar (ar 5) e_n2 cb_n2 f_n2 s_n2) σ0) 86 [some (.ref M), some (.int (nI p0)), some (.int ch), some (.int (nI d0))] [.int (gvF w h (sc 3) (ar 4) p0 (ar 5) ch d0)]
                refine g_goto (n := 90) hC dX8_guarantee_86 ?_
                exact g_iret hC dX8_guarantee_90 (⟨rfl, rfl, (Or.inr (Or.inr (Or.inr ⟨p0, d0, hp1, hd0, hd1, rfl, rfl, h15, h39, h47, fun q => absurd q.2 (by omega), rfl, x_n2, y_n2, u_n2, e_n2, cb_n2, f_n2, s_n2, rfl⟩)))⟩)
              ·
                refine g_iconst (n := 65) (v := (nI 3)) hC (by decide) dX8_guarantee_64 ?_
                refine g_goto (n := 69) hC dX8_guarantee_65 ?_
                refine m_put0 (n := 72) hC hD gp_X8_73 dX8_guarantee_69 ?_
                refine g_aload_n (n := 73) hC rfl dX8_guarantee_72 ?_
                refine m_get (v := .int (nI 3)) (n := 76) hC hD gf_X8_73 dX8_guarantee_73 rfl ?_
                refine g_if_ne (n := 79) (tgt := 89) hC dX8_guarantee_76 (fun _ => ?_) (fun h9 => absurd h9 (by decide))
                refine g_iconst (n := 90) (v := (nI 0)) hC (by decide) dX8_guarantee_89 ?_
                exact g_iret hC dX8_guarantee_90 (⟨rfl, rfl, (Or.inr (Or.inr (Or.inl ⟨p0, d0, hp1, hd0, hd1, rfl, rfl, h15, Or.inr (Or.inr ⟨h52, h61⟩), rfl, rfl⟩)))⟩)
      ·
        refine g_iconst (n := 32) (v := (nI 2)) hC (by decide) dX8_guarantee_31 ?_
        refine g_goto (n := 69) hC dX8_guarantee_32 ?_
        refine m_put0 (n := 72) hC hD gp_X8_73 dX8_guarantee_69 ?_
        refine g_aload_n (n := 73) hC rfl dX8_guarantee_72 ?_
        refine m_get (v := .int (nI 2)) (n := 76) hC hD gf_X8_73 dX8_guarantee_73 rfl ?_
        refine g_if_ne (n := 79) (tgt := 89) hC dX8_guarantee_76 (fun _ => ?_) (fun h9 => absurd h9 (by decide))
        refine g_iconst (n := 90) (v := (nI 0)) hC (by decide) dX8_guarantee_89 ?_
        exact g_iret hC dX8_guarantee_90 (⟨rfl, rfl, (Or.inr (Or.inl ⟨⟨p0, hp0, hp1, rfl⟩, h15, h28, rfl, rfl⟩))⟩)
    ·
      refine g_iconst (n := 19) (v := (nI 1)) hC (by decide) dX8_guarantee_18 ?_
      refine g_goto (n := 69) hC dX8_guarantee_19 ?_
      refine m_put0 (n := 72) hC hD gp_X8_73 dX8_guarantee_69 ?_
      refine g_aload_n (n := 73) hC rfl dX8_guarantee_72 ?_
      refine m_get (v := .int (nI 1)) (n := 76) hC hD gf_X8_73 dX8_guarantee_73 rfl ?_
      refine g_if_ne (n := 79) (tgt := 89) hC dX8_guarantee_76 (fun _ => ?_) (fun h9 => absurd h9 (by decide))
      refine g_iconst (n := 90) (v := (nI 0)) hC (by decide) dX8_guarantee_89 ?_
      exact g_iret hC dX8_guarantee_90 (⟨rfl, rfl, (Or.inl ⟨fun q => h15 q.2, rfl, rfl⟩)⟩)

set_option maxRecDepth 20000 in
set_option maxHeartbeats 2000000 in
theorem M_best (K : GK) {M : Nat} {sc : Nat → Int32} {ar : Nat → Nat → Int32} {σ0 : GS} {L : List Nat} {z : Nat} (hD : mdom M L) {w h : Nat} (hB : mB sc w h) {p dp : Int32} : gM K yX8_best cX8_best 8 (some .int) 12 0 0 [.ref M, .int p, .int dp] z L (mdl K M sc ar σ0) (fun r z1 L1 σ2 => z1 = z ∧ L1 = L ∧ ((¬ inR 0 1 p ∧ r = some (.int (nI 0)) ∧ σ2 = mdl K M (va_up sc 0 (nI 1)) ar σ0) ∨ (inR 0 1 p ∧ ¬ inR 1 2 dp ∧ r = some (.int (nI 0)) ∧ σ2 = mdl K M (va_up sc 0 (nI 2)) ar σ0) ∨ (∃ p0 d0, p0 ≤ 1 ∧ 1 ≤ d0 ∧ d0 ≤ 2 ∧ p = nI p0 ∧ dp = nI d0 ∧ (ovF (ar 5) (w * h) ∨ (d0 = 2 ∧ 6 < mny (ar 5) (w * h) (nI 0))) ∧ r = some (.int (nI 0)) ∧ σ2 = mdl K M (va_up sc 0 (nI 3)) ar σ0) ∨ (∃ p0 d0, p0 ≤ 1 ∧ 1 ≤ d0 ∧ d0 ≤ 2 ∧ p = nI p0 ∧ dp = nI d0 ∧ ¬ ovF (ar 5) (w * h) ∧ ¬ (d0 = 2 ∧ 6 < mny (ar 5) (w * h) (nI 0)) ∧ r = some (.int (bsB w h (sc 3) (ar 4) p0 (ar 5) d0 (w * h + 1))) ∧ ∃ (x y u : Int32) (e cb f s : Nat → Int32), σ2 = mdl K M (scS (va_up sc 0 (nI 0)) x y u) (arX ar (ar 5) e cb f s) σ0))) := by
  obtain ⟨hw, hh, hw1, hw2, hh1, hh2⟩ := id hB
  have hn : w * h ≤ 49 := Nat.mul_le_mul hw2 hh2
  have hn1 : 16 ≤ w * h := Nat.mul_le_mul hw1 hh1
  have hb9 : mny (ar 5) (w * h) (nI 0) ≤ w * h := ct_le _ _
  refine g_intro [some (.ref M), some (.int p), some (.int dp), none, none, none, none, none] (fun Γ hC => ?_) (by simp [g_en, lv_args, Value.category])
  refine g_aload_n (n := 1) hC rfl dX8_best_0 ?_
  refine g_iload_n (n := 2) hC rfl dX8_best_1 ?_
  refine g_iconst (n := 3) (v := (nI 0)) hC (by decide) dX8_best_2 ?_
  refine g_iconst (n := 4) (v := (nI 1)) hC (by decide) dX8_best_3 ?_
  refine g_cS (n := 7) hC gs_X8_80 (M_isInN K hD 0 1 (by omega) (by omega)) dX8_best_4 ?_
  refine g_ifb_ne (n := 10) (tgt := 14) hC dX8_best_7 (fun h7 => ?_) (fun h7 => ?_)
  ·
    obtain ⟨p0, hp0, hp1, rfl⟩ := h7
    refine g_iload_n (n := 15) hC rfl dX8_best_14 ?_
    refine g_iconst (n := 16) (v := (nI 1)) hC (by decide) dX8_best_15 ?_
    refine g_iconst (n := 17) (v := (nI 2)) hC (by decide) dX8_best_16 ?_
    refine g_cS (n := 20) hC gs_X8_80 (M_isInN K hD 1 2 (by omega) (by omega)) dX8_best_17 ?_
    refine g_ifb_ne (n := 23) (tgt := 27) hC dX8_best_20 (fun h20 => ?_) (fun h20 => ?_)
    ·
      obtain ⟨d0, hd0, hd1, rfl⟩ := h20
      refine g_aload_n (n := 28) hC rfl dX8_best_27 ?_
      refine g_cV (n := 31) hC gv_X8_170 (hD 0 (by decide)) mdl_0 (M_over K hD hB) dX8_best_28 ?_
      refine g_ifb_ne (n := 34) (tgt := 48) hC dX8_best_31 (fun h31 => ?_) (fun h31 => ?_)
      ·
        refine g_iconst (n := 49) (v := (nI 3)) hC (by decide) dX8_best_48 ?_
        refine g_goto (n := 53) hC dX8_best_49 ?_
        refine m_put0 (n := 56) hC hD gp_X8_73 dX8_best_53 ?_
        refine g_aload_n (n := 57) hC rfl dX8_best_56 ?_
        refine m_get (v := .int (nI 3)) (n := 60) hC hD gf_X8_73 dX8_best_57 rfl ?_
        refine g_if_le (n := 63) (tgt := 65) hC dX8_best_60 (fun h9 => absurd h9 (by decide)) (fun _ => ?_)
        refine g_iconst (n := 64) (v := (nI 0)) hC (by decide) dX8_best_63 ?_
        exact g_iret hC dX8_best_64 (⟨rfl, rfl, (Or.inr (Or.inr (Or.inl ⟨p0, d0, hp1, hd0, hd1, rfl, rfl, Or.inl h31, rfl, rfl⟩)))⟩)
      ·
        refine g_iload_n (n := 35) hC rfl dX8_best_34 ?_
        refine g_iconst (n := 36) (v := (nI 2)) hC (by decide) dX8_best_35 ?_
        refine g_icmp_neN (n := 39) (tgt := 52) hC (by omega) (by omega) dX8_best_36 (fun h36 => ?_) (fun h36 => ?_)
        ·
          refine g_iconst (n := 53) (v := (nI 0)) hC (by decide) dX8_best_52 ?_
          refine m_put0 (n := 56) hC hD gp_X8_73 dX8_best_53 ?_
          refine g_aload_n (n := 57) hC rfl dX8_best_56 ?_
          refine m_get (v := .int (nI 0)) (n := 60) hC hD gf_X8_73 dX8_best_57 rfl ?_
          refine g_if_le (n := 63) (tgt := 65) hC dX8_best_60 (fun _ => ?_) (fun h9 => absurd h9 (by decide))
          refine g_iconst (n := 66) (v := (-1)) hC (by decide) dX8_best_65 ?_
          refine g_istore_n (n := 67) (ll1 := [some (.ref M), some (.int (nI p0)), some (.int (nI d0)), some (.int (-1)), none, none, none, none]) hC dX8_best_66 rfl ?_
          refine g_ldc (n := 69) hC gc_X8_205 dX8_best_67 ?_
          refine g_istore (n := 71) (ll1 := [some (.ref M), some (.int (nI p0)), some (.int (nI d0)), some (.int (-1)), some (.int (-2147483648)), none, none, none]) hC dX8_best_69 rfl ?_
          refine g_iconst (n := 72) (v := (nI 0)) hC (by decide) dX8_best_71 ?_
          refine g_istore (n := 74) (ll1 := [some (.ref M), some (.int (nI p0)), some (.int (nI d0)), some (.int (-1)), some (.int (-2147483648)), some (.int (nI 0)), none, none]) hC dX8_best_72 rfl ?_
          have lp74 : ∀ (n9 : Nat) (c : Nat) (x : Int32) (y : Int32) (u : Int32) (e : Nat → Int32) (cb : Nat → Int32) (f : Nat → Int32) (s : Nat → Int32) (hc : c ≤ w * h + 1) (y3 : Int32) (ey3 : y3 = (bsB w h (sc 3) (ar 4) p0 (ar 5) d0 c)) (y4 : Int32) (ey4 : y4 = (bsM w h (sc 3) (ar 4) p0 (ar 5) d0 c)) (y5 : Int32) (ey5 : y5 = (nI c)) (hm9 : w * h + 1 - c < n9), G K Γ (z, 0, 0, L) (mdl K M (scS (va_up sc 0 (nI 0)) x y u) (arX ar (ar 5) e cb f s) σ0) 74 [some (.ref M), some (.int (nI p0)), some (.int (nI d0)), some (.int y3), some (.int y4), some (.int y5), none, none] [] := by
            intro n9
            induction n9 with
            | zero =>
              intro c x y u e cb f s hc y3 ey3 y4 ey4 y5 ey5 hm9
              exact absurd hm9 (Nat.not_lt_zero _)
            | succ n9 ih74 =>
              intro c x y u e cb f s hc y3 ey3 y4 ey4 y5 ey5 hm9
              subst ey3
              subst ey4
              subst ey5
              refine g_iload (n := 76) hC rfl dX8_best_74 ?_
              refine g_aload_n (n := 77) hC rfl dX8_best_76 ?_
              refine g_cV (n := 80) hC gv_X8_76 (hD 0 (by decide)) mdl_0 (M_cells K hD (show mB (scS (va_up sc 0 (nI 0)) x y u) w h from hB)) dX8_best_77 ?_
              refine g_icmp_gtN (n := 83) (tgt := 142) hC (by omega) (by omega) dX8_best_80 (fun h80 => ?_) (fun h80 => ?_)
              ·
                refine g_iload_n (n := 143) hC rfl dX8_best_142 ?_
                exact g_iret hC dX8_best_143 (⟨rfl, rfl, (Or.inr (Or.inr (Or.inr ⟨p0, d0, hp1, hd0, hd1, rfl, rfl, h31, fun q => h36 q.1, rI (by rw [show c = w * h + 1 by omega]), x, y, u, e, cb, f, s, rfl⟩)))⟩)
              ·
                have lp98 : ∀ (ys0 : Int32) (eys0 : ys0 = (chB (w * h) c)), G K Γ (z, 0, 0, L) (mdl K M (scS (va_up sc 0 (nI 0)) x y u) (arX ar (ar 5) e cb f s) σ0) 98 [some (.ref M), some (.int (nI p0)), some (.int (nI d0)), some (.int (bsB w h (sc 3) (ar 4) p0 (ar 5) d0 c)), some (.int (bsM w h (sc 3) (ar 4) p0 (ar 5) d0 c)), some (.int (nI c)), none, none] [.int ys0] := by
                  intro ys0 eys0
                  subst eys0
                  refine g_istore (n := 100) (ll1 := [some (.ref M), some (.int (nI p0)), some (.int (nI d0)), some (.int (bsB w h (sc 3) (ar 4) p0 (ar 5) d0 c)), some (.int (bsM w h (sc 3) (ar 4) p0 (ar 5) d0 c)), some (.int (nI c)), some (.int (chB (w * h) c)), none]) hC dX8_best_98 rfl ?_
                  refine g_aload_n (n := 101) hC rfl dX8_best_100 ?_
                  refine g_iload (n := 103) hC rfl dX8_best_101 ?_
                  refine g_cV (n := 106) hC gv_X8_157 (hD 0 (by decide)) mdl_0 (M_mayChoose K hD (show mB (scS (va_up sc 0 (nI 0)) x y u) w h from hB) (x := chB (w * h) c) (chB_ok h80)) dX8_best_103 ?_
                  refine g_ifb_ne (n := 109) (tgt := 112) hC dX8_best_106 (fun h106 => ?_) (fun h106 => ?_)
                  ·
                    have h106 : mayF (ar 5) (chB (w * h) c) := h106
                    refine g_aload_n (n := 113) hC rfl dX8_best_112 ?_
                    refine g_iload_n (n := 114) hC rfl dX8_best_113 ?_
                    refine g_iload (n := 116) hC rfl dX8_best_114 ?_
                    refine g_iload_n (n := 117) hC rfl dX8_best_116 ?_
                    refine g_callV hC gv_X8_216 (M_guaranteed K hD (show mB (scS (va_up sc 0 (nI 0)) x y u) w h from hB) (p := p0) (dp := d0) (ch := (chB (w * h) c)) hp1 (chB_ok h80) (by omega)) (hD 0 (by decide)) mdl_0 (by rfl) (by decide) (by decide) (by rfl) (by rfl) (Nat.le_of_ble_eq_true rfl) (by exact ⟨Nat.le_refl _, Nat.le_refl _⟩) dX8_best_117 (fun rv9 z9 L9 σ9 hp9 => ?_)
                    obtain ⟨rfl, hz9, hL9, x_n1, y_n1, u_n1, e_n1, cb_n1, f_n1, s_n1, hs9⟩ := hp9
                    rw [hz9, hL9, hs9]
                    refine G.eqs (show _ = mdl K M (scS (va_up sc 0 (nI 0)) x_n1 y_n1 u_n1) (arX ar (ar 5) e_n1 cb_n1 f_n1 s_n1) σ0 from (by first | rfl | (rw [scS_scS, arX_X]; rfl))) ?_
                    show G K Γ (z, 0, 0, L) (mdl K M (scS (va_up sc 0 (nI 0)) x_n1 y_n1 u_n1) (arX ar (ar 5) e_n1 cb_n1 f_n1 s_n1) σ0) 120 [some (.ref M), some (.int (nI p0)), some (.int (nI d0)), some (.int (bsB w h (sc 3) (ar 4) p0 (ar 5) d0 c)), some (.int (bsM w h (sc 3) (ar 4) p0 (ar 5) d0 c)), some (.int (nI c)), some (.int (chB (w * h) c)), none] [.int (gvF w h (sc 3) (ar 4) p0 (ar 5) (chB (w * h) c) d0)]
                    refine g_istore (n := 122) (ll1 := [some (.ref M), some (.int (nI p0)), some (.int (nI d0)), some (.int (bsB w h (sc 3) (ar 4) p0 (ar 5) d0 c)), some (.int (bsM w h (sc 3) (ar 4) p0 (ar 5) d0 c)), some (.int (nI c)), some (.int (chB (w * h) c)), some (.int (gvF w h (sc 3) (ar 4) p0 (ar 5) (chB (w * h) c) d0))]) hC dX8_best_120 rfl ?_
                    refine g_iload (n := 124) hC rfl dX8_best_122 ?_
                    refine g_iload (n := 126) hC rfl dX8_best_124 ?_
                    refine g_icmp_le (n := 129) (tgt := 136) hC dX8_best_126 (fun h126 => ?_) (fun h126 => ?_)
                    ·
                      refine g_iinc (n := 139) (ll1 := [some (.ref M), some (.int (nI p0)), some (.int (nI d0)), some (.int (bsB w h (sc 3) (ar 4) p0 (ar 5) d0 c)), some (.int (bsM w h (sc 3) (ar 4) p0 (ar 5) d0 c)), some (.int (nI (c + 1))), some (.int (chB (w * h) c)), some (.int (gvF w h (sc 3) (ar 4) p0 (ar 5) (chB (w * h) c) d0))]) hC dX8_best_136 rfl (nI_inc _) rfl ?_
                      refine g_goto (n := 74) hC dX8_best_139 ?_
                      exact G.le (ih74 (c + 1) x_n1 y_n1 u_n1 e_n1 cb_n1 f_n1 s_n1 (by omega) _ ((bs_f h126).2) _ ((bs_f h126).1) _ (by first | rfl | (simp [*]; done)) (by omega)) (And.intro rfl (And.intro rfl (And.intro rfl (And.intro rfl (And.intro rfl (And.intro rfl (trivial)))))))
                    ·
                      refine g_iload (n := 131) hC rfl dX8_best_129 ?_
                      refine g_istore_n (n := 132) (ll1 := [some (.ref M), some (.int (nI p0)), some (.int (nI d0)), some (.int (chB (w * h) c)), some (.int (bsM w h (sc 3) (ar 4) p0 (ar 5) d0 c)), some (.int (nI c)), some (.int (chB (w * h) c)), some (.int (gvF w h (sc 3) (ar 4) p0 (ar 5) (chB (w * h) c) d0))]) hC dX8_best_131 rfl ?_
                      refine g_iload (n := 134) hC rfl dX8_best_132 ?_
                      refine g_istore (n := 136) (ll1 := [some (.ref M), some (.int (nI p0)), some (.int (nI d0)), some (.int (chB (w * h) c)), some (.int (gvF w h (sc 3) (ar 4) p0 (ar 5) (chB (w * h) c) d0)), some (.int (nI c)), some (.int (chB (w * h) c)), some (.int (gvF w h (sc 3) (ar 4) p0 (ar 5) (chB (w * h) c) d0))]) hC dX8_best_134 rfl ?_
                      refine g_iinc (n := 139) (ll1 := [some (.ref M), some (.int (nI p0)), some (.int (nI d0)), some (.int (chB (w * h) c)), some (.int (gvF w h (sc 3) (ar 4) p0 (ar 5) (chB (w * h) c) d0)), some (.int (nI (c + 1))), some (.int (chB (w * h) c)), some (.int (gvF w h (sc 3) (ar 4) p0 (ar 5) (chB (w * h) c) d0))]) hC dX8_best_136 rfl (nI_inc _) rfl ?_
                      refine g_goto (n := 74) hC dX8_best_139 ?_
                      exact G.le (ih74 (c + 1) x_n1 y_n1 u_n1 e_n1 cb_n1 f_n1 s_n1 (by omega) _ ((bs_t h106 h126).2) _ ((bs_t h106 h126).1) _ (by first | rfl | (simp [*]; done)) (by omega)) (And.intro rfl (And.intro rfl (And.intro rfl (And.intro rfl (And.intro rfl (And.intro rfl (trivial)))))))
                  ·
                    have h106 : ¬ mayF (ar 5) (chB (w * h) c) := h106
                    refine g_goto (n := 136) hC dX8_best_109 ?_
                    refine g_iinc (n := 139) (ll1 := [some (.ref M), some (.int (nI p0)), some (.int (nI d0)), some (.int (bsB w h (sc 3) (ar 4) p0 (ar 5) d0 c)), some (.int (bsM w h (sc 3) (ar 4) p0 (ar 5) d0 c)), some (.int (nI (c + 1))), some (.int (chB (w * h) c)), none]) hC dX8_best_136 rfl (nI_inc _) rfl ?_
                    refine g_goto (n := 74) hC dX8_best_139 ?_
                    exact G.le (ih74 (c + 1) x y u e cb f s (by omega) _ ((bs_n h106).2) _ ((bs_n h106).1) _ (by first | rfl | (simp [*]; done)) (by omega)) (And.intro rfl (And.intro rfl (And.intro rfl (And.intro rfl (And.intro rfl (And.intro rfl (trivial)))))))
                refine g_iload (n := 85) hC rfl dX8_best_83 ?_
                refine g_aload_n (n := 86) hC rfl dX8_best_85 ?_
                refine g_cV (n := 89) hC gv_X8_76 (hD 0 (by decide)) mdl_0 (M_cells K hD (show mB (scS (va_up sc 0 (nI 0)) x y u) w h from hB)) dX8_best_86 ?_
                refine g_icmp_neN (n := 92) (tgt := 96) hC (by omega) (by omega) dX8_best_89 (fun h89 => ?_) (fun h89 => ?_)
                ·
                  refine g_iload (n := 98) hC rfl dX8_best_96 ?_
                  exact lp98  _ ((if_neg h89).symm)
                ·
                  refine g_iconst (n := 93) (v := (-1)) hC (by decide) dX8_best_92 ?_
                  refine g_goto (n := 98) hC dX8_best_93 ?_
                  exact lp98  _ ((if_pos h89).symm)
          refine G.eqs (show _ = mdl K M (scS (va_up sc 0 (nI 0)) (sc 22) (sc 23) (sc 24)) (arX ar (ar 5) (ar 20) (ar 21) (ar 6) (ar 7)) σ0 from (by rw [← arX_id]; exact congrArg (fun q => mdl K M q ar σ0) (scS_id (sc := va_up sc 0 (nI 0))))) ?_
          exact lp74 _ 0 (sc 22) (sc 23) (sc 24) (ar 20) (ar 21) (ar 6) (ar 7) (by omega) _ (rfl) _ (rfl) _ (by first | rfl | (simp [*]; done)) (Nat.lt_succ_self _)
        ·
          refine g_aload_n (n := 40) hC rfl dX8_best_39 ?_
          refine g_cV (n := 43) hC gv_X8_108 (hD 0 (by decide)) mdl_0 (M_emptyCells K hD hB) dX8_best_40 ?_
          refine g_bipush (n := 45) (v := (nI 6)) hC (by decide) dX8_best_43 ?_
          refine g_icmp_leN (n := 48) (tgt := 52) hC (by omega) (by omega) dX8_best_45 (fun h45 => ?_) (fun h45 => ?_)
          ·
            refine g_iconst (n := 53) (v := (nI 0)) hC (by decide) dX8_best_52 ?_
            refine m_put0 (n := 56) hC hD gp_X8_73 dX8_best_53 ?_
            refine g_aload_n (n := 57) hC rfl dX8_best_56 ?_
            refine m_get (v := .int (nI 0)) (n := 60) hC hD gf_X8_73 dX8_best_57 rfl ?_
            refine g_if_le (n := 63) (tgt := 65) hC dX8_best_60 (fun _ => ?_) (fun h9 => absurd h9 (by decide))
            refine g_iconst (n := 66) (v := (-1)) hC (by decide) dX8_best_65 ?_
            refine g_istore_n (n := 67) (ll1 := [some (.ref M), some (.int (nI p0)), some (.int (nI d0)), some (.int (-1)), none, none, none, none]) hC dX8_best_66 rfl ?_
            refine g_ldc (n := 69) hC gc_X8_205 dX8_best_67 ?_
            refine g_istore (n := 71) (ll1 := [some (.ref M), some (.int (nI p0)), some (.int (nI d0)), some (.int (-1)), some (.int (-2147483648)), none, none, none]) hC dX8_best_69 rfl ?_
            refine g_iconst (n := 72) (v := (nI 0)) hC (by decide) dX8_best_71 ?_
            refine g_istore (n := 74) (ll1 := [some (.ref M), some (.int (nI p0)), some (.int (nI d0)), some (.int (-1)), some (.int (-2147483648)), some (.int (nI 0)), none, none]) hC dX8_best_72 rfl ?_
            have lp74 : ∀ (n9 : Nat) (c : Nat) (x : Int32) (y : Int32) (u : Int32) (e : Nat → Int32) (cb : Nat → Int32) (f : Nat → Int32) (s : Nat → Int32) (hc : c ≤ w * h + 1) (y3 : Int32) (ey3 : y3 = (bsB w h (sc 3) (ar 4) p0 (ar 5) d0 c)) (y4 : Int32) (ey4 : y4 = (bsM w h (sc 3) (ar 4) p0 (ar 5) d0 c)) (y5 : Int32) (ey5 : y5 = (nI c)) (hm9 : w * h + 1 - c < n9), G K Γ (z, 0, 0, L) (mdl K M (scS (va_up sc 0 (nI 0)) x y u) (arX ar (ar 5) e cb f s) σ0) 74 [some (.ref M), some (.int (nI p0)), some (.int (nI d0)), some (.int y3), some (.int y4), some (.int y5), none, none] [] := by
              intro n9
              induction n9 with
              | zero =>
                intro c x y u e cb f s hc y3 ey3 y4 ey4 y5 ey5 hm9
                exact absurd hm9 (Nat.not_lt_zero _)
              | succ n9 ih74 =>
                intro c x y u e cb f s hc y3 ey3 y4 ey4 y5 ey5 hm9
                subst ey3
                subst ey4
                subst ey5
                refine g_iload (n := 76) hC rfl dX8_best_74 ?_
                refine g_aload_n (n := 77) hC rfl dX8_best_76 ?_
                refine g_cV (n := 80) hC gv_X8_76 (hD 0 (by decide)) mdl_0 (M_cells K hD (show mB (scS (va_up sc 0 (nI 0)) x y u) w h from hB)) dX8_best_77 ?_
                refine g_icmp_gtN (n := 83) (tgt := 142) hC (by omega) (by omega) dX8_best_80 (fun h80 => ?_) (fun h80 => ?_)
                ·
                  refine g_iload_n (n := 143) hC rfl dX8_best_142 ?_
                  exact g_iret hC dX8_best_143 (⟨rfl, rfl, (Or.inr (Or.inr (Or.inr ⟨p0, d0, hp1, hd0, hd1, rfl, rfl, h31, fun q => absurd q.2 (by omega), rI (by rw [show c = w * h + 1 by omega]), x, y, u, e, cb, f, s, rfl⟩)))⟩)
                ·
                  have lp98 : ∀ (ys0 : Int32) (eys0 : ys0 = (chB (w * h) c)), G K Γ (z, 0, 0, L) (mdl K M (scS (va_up sc 0 (nI 0)) x y u) (arX ar (ar 5) e cb f s) σ0) 98 [some (.ref M), some (.int (nI p0)), some (.int (nI d0)), some (.int (bsB w h (sc 3) (ar 4) p0 (ar 5) d0 c)), some (.int (bsM w h (sc 3) (ar 4) p0 (ar 5) d0 c)), some (.int (nI c)), none, none] [.int ys0] := by
                    intro ys0 eys0
                    subst eys0
                    refine g_istore (n := 100) (ll1 := [some (.ref M), some (.int (nI p0)), some (.int (nI d0)), some (.int (bsB w h (sc 3) (ar 4) p0 (ar 5) d0 c)), some (.int (bsM w h (sc 3) (ar 4) p0 (ar 5) d0 c)), some (.int (nI c)), some (.int (chB (w * h) c)), none]) hC dX8_best_98 rfl ?_
                    refine g_aload_n (n := 101) hC rfl dX8_best_100 ?_
                    refine g_iload (n := 103) hC rfl dX8_best_101 ?_
                    refine g_cV (n := 106) hC gv_X8_157 (hD 0 (by decide)) mdl_0 (M_mayChoose K hD (show mB (scS (va_up sc 0 (nI 0)) x y u) w h from hB) (x := chB (w * h) c) (chB_ok h80)) dX8_best_103 ?_
                    refine g_ifb_ne (n := 109) (tgt := 112) hC dX8_best_106 (fun h106 => ?_) (fun h106 => ?_)
                    ·
                      have h106 : mayF (ar 5) (chB (w * h) c) := h106
                      refine g_aload_n (n := 113) hC rfl dX8_best_112 ?_
                      refine g_iload_n (n := 114) hC rfl dX8_best_113 ?_
                      refine g_iload (n := 116) hC rfl dX8_best_114 ?_
                      refine g_iload_n (n := 117) hC rfl dX8_best_116 ?_
                      refine g_callV hC gv_X8_216 (M_guaranteed K hD (show mB (scS (va_up sc 0 (nI 0)) x y u) w h from hB) (p := p0) (dp := d0) (ch := (chB (w * h) c)) hp1 (chB_ok h80) (by omega)) (hD 0 (by decide)) mdl_0 (by rfl) (by decide) (by decide) (by rfl) (by rfl) (Nat.le_of_ble_eq_true rfl) (by exact ⟨Nat.le_refl _, Nat.le_refl _⟩) dX8_best_117 (fun rv9 z9 L9 σ9 hp9 => ?_)
                      obtain ⟨rfl, hz9, hL9, x_n2, y_n2, u_n2, e_n2, cb_n2, f_n2, s_n2, hs9⟩ := hp9
                      rw [hz9, hL9, hs9]
                      refine G.eqs (show _ = mdl K M (scS (va_up sc 0 (nI 0)) x_n2 y_n2 u_n2) (arX ar (ar 5) e_n2 cb_n2 f_n2 s_n2) σ0 from (by first | rfl | (rw [scS_scS, arX_X]; rfl))) ?_
                      show G K Γ (z, 0, 0, L) (mdl K M (scS (va_up sc 0 (nI 0)) x_n2 y_n2 u_n2) (arX ar (ar 5) e_n2 cb_n2 f_n2 s_n2) σ0) 120 [some (.ref M), some (.int (nI p0)), some (.int (nI d0)), some (.int (bsB w h (sc 3) (ar 4) p0 (ar 5) d0 c)), some (.int (bsM w h (sc 3) (ar 4) p0 (ar 5) d0 c)), some (.int (nI c)), some (.int (chB (w * h) c)), none] [.int (gvF w h (sc 3) (ar 4) p0 (ar 5) (chB (w * h) c) d0)]
                      refine g_istore (n := 122) (ll1 := [some (.ref M), some (.int (nI p0)), some (.int (nI d0)), some (.int (bsB w h (sc 3) (ar 4) p0 (ar 5) d0 c)), some (.int (bsM w h (sc 3) (ar 4) p0 (ar 5) d0 c)), some (.int (nI c)), some (.int (chB (w * h) c)), some (.int (gvF w h (sc 3) (ar 4) p0 (ar 5) (chB (w * h) c) d0))]) hC dX8_best_120 rfl ?_
                      refine g_iload (n := 124) hC rfl dX8_best_122 ?_
                      refine g_iload (n := 126) hC rfl dX8_best_124 ?_
                      refine g_icmp_le (n := 129) (tgt := 136) hC dX8_best_126 (fun h126 => ?_) (fun h126 => ?_)
                      ·
                        refine g_iinc (n := 139) (ll1 := [some (.ref M), some (.int (nI p0)), some (.int (nI d0)), some (.int (bsB w h (sc 3) (ar 4) p0 (ar 5) d0 c)), some (.int (bsM w h (sc 3) (ar 4) p0 (ar 5) d0 c)), some (.int (nI (c + 1))), some (.int (chB (w * h) c)), some (.int (gvF w h (sc 3) (ar 4) p0 (ar 5) (chB (w * h) c) d0))]) hC dX8_best_136 rfl (nI_inc _) rfl ?_
                        refine g_goto (n := 74) hC dX8_best_139 ?_
                        exact G.le (ih74 (c + 1) x_n2 y_n2 u_n2 e_n2 cb_n2 f_n2 s_n2 (by omega) _ ((bs_f h126).2) _ ((bs_f h126).1) _ (by first | rfl | (simp [*]; done)) (by omega)) (And.intro rfl (And.intro rfl (And.intro rfl (And.intro rfl (And.intro rfl (And.intro rfl (trivial)))))))
                      ·
                        refine g_iload (n := 131) hC rfl dX8_best_129 ?_
                        refine g_istore_n (n := 132) (ll1 := [some (.ref M), some (.int (nI p0)), some (.int (nI d0)), some (.int (chB (w * h) c)), some (.int (bsM w h (sc 3) (ar 4) p0 (ar 5) d0 c)), some (.int (nI c)), some (.int (chB (w * h) c)), some (.int (gvF w h (sc 3) (ar 4) p0 (ar 5) (chB (w * h) c) d0))]) hC dX8_best_131 rfl ?_
                        refine g_iload (n := 134) hC rfl dX8_best_132 ?_
                        refine g_istore (n := 136) (ll1 := [some (.ref M), some (.int (nI p0)), some (.int (nI d0)), some (.int (chB (w * h) c)), some (.int (gvF w h (sc 3) (ar 4) p0 (ar 5) (chB (w * h) c) d0)), some (.int (nI c)), some (.int (chB (w * h) c)), some (.int (gvF w h (sc 3) (ar 4) p0 (ar 5) (chB (w * h) c) d0))]) hC dX8_best_134 rfl ?_
                        refine g_iinc (n := 139) (ll1 := [some (.ref M), some (.int (nI p0)), some (.int (nI d0)), some (.int (chB (w * h) c)), some (.int (gvF w h (sc 3) (ar 4) p0 (ar 5) (chB (w * h) c) d0)), some (.int (nI (c + 1))), some (.int (chB (w * h) c)), some (.int (gvF w h (sc 3) (ar 4) p0 (ar 5) (chB (w * h) c) d0))]) hC dX8_best_136 rfl (nI_inc _) rfl ?_
                        refine g_goto (n := 74) hC dX8_best_139 ?_
                        exact G.le (ih74 (c + 1) x_n2 y_n2 u_n2 e_n2 cb_n2 f_n2 s_n2 (by omega) _ ((bs_t h106 h126).2) _ ((bs_t h106 h126).1) _ (by first | rfl | (simp [*]; done)) (by omega)) (And.intro rfl (And.intro rfl (And.intro rfl (And.intro rfl (And.intro rfl (And.intro rfl (trivial)))))))
                    ·
                      have h106 : ¬ mayF (ar 5) (chB (w * h) c) := h106
                      refine g_goto (n := 136) hC dX8_best_109 ?_
                      refine g_iinc (n := 139) (ll1 := [some (.ref M), some (.int (nI p0)), some (.int (nI d0)), some (.int (bsB w h (sc 3) (ar 4) p0 (ar 5) d0 c)), some (.int (bsM w h (sc 3) (ar 4) p0 (ar 5) d0 c)), some (.int (nI (c + 1))), some (.int (chB (w * h) c)), none]) hC dX8_best_136 rfl (nI_inc _) rfl ?_
                      refine g_goto (n := 74) hC dX8_best_139 ?_
                      exact G.le (ih74 (c + 1) x y u e cb f s (by omega) _ ((bs_n h106).2) _ ((bs_n h106).1) _ (by first | rfl | (simp [*]; done)) (by omega)) (And.intro rfl (And.intro rfl (And.intro rfl (And.intro rfl (And.intro rfl (And.intro rfl (trivial)))))))
                  refine g_iload (n := 85) hC rfl dX8_best_83 ?_
                  refine g_aload_n (n := 86) hC rfl dX8_best_85 ?_
                  refine g_cV (n := 89) hC gv_X8_76 (hD 0 (by decide)) mdl_0 (M_cells K hD (show mB (scS (va_up sc 0 (nI 0)) x y u) w h from hB)) dX8_best_86 ?_
                  refine g_icmp_neN (n := 92) (tgt := 96) hC (by omega) (by omega) dX8_best_89 (fun h89 => ?_) (fun h89 => ?_)
                  ·
                    refine g_iload (n := 98) hC rfl dX8_best_96 ?_
                    exact lp98  _ ((if_neg h89).symm)
                  ·
                    refine g_iconst (n := 93) (v := (-1)) hC (by decide) dX8_best_92 ?_
                    refine g_goto (n := 98) hC dX8_best_93 ?_
                    exact lp98  _ ((if_pos h89).symm)
            refine G.eqs (show _ = mdl K M (scS (va_up sc 0 (nI 0)) (sc 22) (sc 23) (sc 24)) (arX ar (ar 5) (ar 20) (ar 21) (ar 6) (ar 7)) σ0 from (by rw [← arX_id]; exact congrArg (fun q => mdl K M q ar σ0) (scS_id (sc := va_up sc 0 (nI 0))))) ?_
            exact lp74 _ 0 (sc 22) (sc 23) (sc 24) (ar 20) (ar 21) (ar 6) (ar 7) (by omega) _ (rfl) _ (rfl) _ (by first | rfl | (simp [*]; done)) (Nat.lt_succ_self _)
          ·
            refine g_iconst (n := 49) (v := (nI 3)) hC (by decide) dX8_best_48 ?_
            refine g_goto (n := 53) hC dX8_best_49 ?_
            refine m_put0 (n := 56) hC hD gp_X8_73 dX8_best_53 ?_
            refine g_aload_n (n := 57) hC rfl dX8_best_56 ?_
            refine m_get (v := .int (nI 3)) (n := 60) hC hD gf_X8_73 dX8_best_57 rfl ?_
            refine g_if_le (n := 63) (tgt := 65) hC dX8_best_60 (fun h9 => absurd h9 (by decide)) (fun _ => ?_)
            refine g_iconst (n := 64) (v := (nI 0)) hC (by decide) dX8_best_63 ?_
            exact g_iret hC dX8_best_64 (⟨rfl, rfl, (Or.inr (Or.inr (Or.inl ⟨p0, d0, hp1, hd0, hd1, rfl, rfl, Or.inr ⟨h36, h45⟩, rfl, rfl⟩)))⟩)
    ·
      refine g_iconst (n := 24) (v := (nI 2)) hC (by decide) dX8_best_23 ?_
      refine g_goto (n := 53) hC dX8_best_24 ?_
      refine m_put0 (n := 56) hC hD gp_X8_73 dX8_best_53 ?_
      refine g_aload_n (n := 57) hC rfl dX8_best_56 ?_
      refine m_get (v := .int (nI 2)) (n := 60) hC hD gf_X8_73 dX8_best_57 rfl ?_
      refine g_if_le (n := 63) (tgt := 65) hC dX8_best_60 (fun h9 => absurd h9 (by decide)) (fun _ => ?_)
      refine g_iconst (n := 64) (v := (nI 0)) hC (by decide) dX8_best_63 ?_
      exact g_iret hC dX8_best_64 (⟨rfl, rfl, (Or.inr (Or.inl ⟨⟨p0, hp0, hp1, rfl⟩, h20, rfl, rfl⟩))⟩)
  ·
    refine g_iconst (n := 11) (v := (nI 1)) hC (by decide) dX8_best_10 ?_
    refine g_goto (n := 53) hC dX8_best_11 ?_
    refine m_put0 (n := 56) hC hD gp_X8_73 dX8_best_53 ?_
    refine g_aload_n (n := 57) hC rfl dX8_best_56 ?_
    refine m_get (v := .int (nI 1)) (n := 60) hC hD gf_X8_73 dX8_best_57 rfl ?_
    refine g_if_le (n := 63) (tgt := 65) hC dX8_best_60 (fun h9 => absurd h9 (by decide)) (fun _ => ?_)
    refine g_iconst (n := 64) (v := (nI 0)) hC (by decide) dX8_best_63 ?_
    exact g_iret hC dX8_best_64 (⟨rfl, rfl, (Or.inl ⟨h7, rfl, rfl⟩)⟩)

set_option maxRecDepth 20000 in
set_option maxHeartbeats 1000000 in
theorem M_reports (K : GK) {M : Nat} {sc : Nat → Int32} {ar : Nat → Nat → Int32} {σ0 : GS} {L : List Nat} {z : Nat} (hD : mdom M L) {w h : Nat} (hB : mB sc w h) {who c : Nat} (hwho : who ≤ 1) (hc : c < w * h) (hwv : wvOK (ar 5) c) : gM K yX8_reports cX8_reports 3 none 0 0 0 [.ref M, .int (nI who), .int (nI c)] z L (mdl K M sc ar σ0) (fun r z1 L1 σ2 => r = none ∧ z1 = z ∧ L1 = L ∧ ((ar 5 (98 + c) = -1 ∧ σ2 = mdl K M (va_up sc 27 (nI 3)) (va_up (va_up ar 25 (rp3C (ar 25) (ar 5) who c)) 26 (rp3D (ar 26) (ar 5) c)) σ0) ∨ (∃ sn wn, sn < 60 ∧ wn < 8 ∧ ar 5 (49 + c) = nI sn ∧ ar 5 (98 + c) = nI wn ∧ σ2 = mdl K M (va_up sc 27 (nI 4)) (va_up (va_up ar 25 (va_up (rp3C (ar 25) (ar 5) who c) 3 (nI 20 + ar 5 (98 + c)))) 26 (va_up (rp3D (ar 26) (ar 5) c) 3 (ar 10 (8 * sn + wn)))) σ0))) := by
  obtain ⟨hw, hh, hw1, hw2, hh1, hh2⟩ := id hB
  have hn : w * h ≤ 49 := Nat.mul_le_mul hw2 hh2
  have hn1 : 16 ≤ w * h := Nat.mul_le_mul hw1 hh1
  refine g_intro [some (.ref M), some (.int (nI who)), some (.int (nI c))] (fun Γ hC => ?_) (by simp [g_en, lv_args, Value.category])
  refine g_aload_n (n := 1) hC rfl dX8_reports_0 ?_
  refine m_get (v := .ref (M + 15)) (n := 4) hC hD gf_X8_59 dX8_reports_1 rfl ?_
  refine g_iconst (n := 5) (v := (nI 0)) hC (by decide) dX8_reports_4 ?_
  refine g_iconst (n := 6) (v := (nI 1)) hC (by decide) dX8_reports_5 ?_
  refine m_st25 (f := (ar 25)) (n := 7) hC hD 0 dX8_reports_6 (rfl) (by omega) rfl ?_
  refine g_aload_n (n := 8) hC rfl dX8_reports_7 ?_
  refine m_get (v := .ref (M + 16)) (n := 11) hC hD gf_X8_62 dX8_reports_8 rfl ?_
  refine g_iconst (n := 12) (v := (nI 0)) hC (by decide) dX8_reports_11 ?_
  refine g_aload_n (n := 13) hC rfl dX8_reports_12 ?_
  refine m_get (v := .ref (M + 2)) (n := 16) hC hD gf_X8_20 dX8_reports_13 rfl ?_
  refine g_sipush (n := 19) (v := (nI 153)) hC (by decide) dX8_reports_16 ?_
  refine m_ld5 (x := ((ar 5) 153)) (n := 20) hC hD 153 dX8_reports_19 (rfl) (by omega) (rfl) ?_
  refine m_st26 (f := (ar 26)) (n := 21) hC hD 0 dX8_reports_20 (rfl) (by omega) rfl ?_
  refine g_aload_n (n := 22) hC rfl dX8_reports_21 ?_
  refine m_get (v := .ref (M + 15)) (n := 25) hC hD gf_X8_59 dX8_reports_22 rfl ?_
  refine g_iconst (n := 26) (v := (nI 1)) hC (by decide) dX8_reports_25 ?_
  refine g_iconst (n := 27) (v := (nI 2)) hC (by decide) dX8_reports_26 ?_
  refine g_iload_n (n := 28) hC rfl dX8_reports_27 ?_
  refine g_iaddN (n := 29) hC dX8_reports_28 ?_
  refine m_st25 (f := (va_up (ar 25) 0 (nI 1))) (n := 30) hC hD 1 dX8_reports_29 (rfl) (by omega) rfl ?_
  refine g_aload_n (n := 31) hC rfl dX8_reports_30 ?_
  refine m_get (v := .ref (M + 16)) (n := 34) hC hD gf_X8_62 dX8_reports_31 rfl ?_
  refine g_iconst (n := 35) (v := (nI 1)) hC (by decide) dX8_reports_34 ?_
  refine g_iload_n (n := 36) hC rfl dX8_reports_35 ?_
  refine m_st26 (f := (va_up (ar 26) 0 ((ar 5) 153))) (n := 37) hC hD 1 dX8_reports_36 (rfl) (by omega) rfl ?_
  refine g_aload_n (n := 38) hC rfl dX8_reports_37 ?_
  refine m_get (v := .ref (M + 15)) (n := 41) hC hD gf_X8_59 dX8_reports_38 rfl ?_
  refine g_iconst (n := 42) (v := (nI 2)) hC (by decide) dX8_reports_41 ?_
  refine g_bipush (n := 44) (v := (nI 10)) hC (by decide) dX8_reports_42 ?_
  refine g_aload_n (n := 45) hC rfl dX8_reports_44 ?_
  refine m_get (v := .ref (M + 2)) (n := 48) hC hD gf_X8_20 dX8_reports_45 rfl ?_
  refine g_iload_n (n := 49) hC rfl dX8_reports_48 ?_
  refine m_ld5 (x := ((ar 5) c)) (n := 50) hC hD c dX8_reports_49 (rfl) (by omega) (rfl) ?_
  refine g_iadd (n := 51) hC dX8_reports_50 ?_
  refine m_st25 (f := (va_up (va_up (ar 25) 0 (nI 1)) 1 (nI (2 + who)))) (n := 52) hC hD 2 dX8_reports_51 (rfl) (by omega) rfl ?_
  refine g_aload_n (n := 53) hC rfl dX8_reports_52 ?_
  refine m_get (v := .ref (M + 16)) (n := 56) hC hD gf_X8_62 dX8_reports_53 rfl ?_
  refine g_iconst (n := 57) (v := (nI 2)) hC (by decide) dX8_reports_56 ?_
  refine g_aload_n (n := 58) hC rfl dX8_reports_57 ?_
  refine m_get (v := .ref (M + 2)) (n := 61) hC hD gf_X8_20 dX8_reports_58 rfl ?_
  refine g_bipush (n := 63) (v := (nI 49)) hC (by decide) dX8_reports_61 ?_
  refine g_iload_n (n := 64) hC rfl dX8_reports_63 ?_
  refine g_iaddN (n := 65) hC dX8_reports_64 ?_
  refine m_ld5 (x := ((ar 5) (49 + c))) (n := 66) hC hD (49 + c) dX8_reports_65 (rfl) (by omega) (rfl) ?_
  refine m_st26 (f := (va_up (va_up (ar 26) 0 ((ar 5) 153)) 1 (nI c))) (n := 67) hC hD 2 dX8_reports_66 (rfl) (by omega) rfl ?_
  refine g_aload_n (n := 68) hC rfl dX8_reports_67 ?_
  refine g_iconst (n := 69) (v := (nI 3)) hC (by decide) dX8_reports_68 ?_
  refine m_put27 (n := 72) hC hD gp_X8_154 dX8_reports_69 ?_
  refine g_aload_n (n := 73) hC rfl dX8_reports_72 ?_
  refine m_get (v := .ref (M + 2)) (n := 76) hC hD gf_X8_20 dX8_reports_73 rfl ?_
  refine g_bipush (n := 78) (v := (nI 98)) hC (by decide) dX8_reports_76 ?_
  refine g_iload_n (n := 79) hC rfl dX8_reports_78 ?_
  refine g_iaddN (n := 80) hC dX8_reports_79 ?_
  refine m_ld5 (x := ((ar 5) (98 + c))) (n := 81) hC hD (98 + c) dX8_reports_80 (rfl) (by omega) (rfl) ?_
  refine g_if_ge (n := 84) (tgt := 85) hC dX8_reports_81 (fun h81 => ?_) (fun h81 => ?_)
  ·
    obtain ⟨sn, wn, hsn, hwn, es, ew⟩ := hwv.resolve_left (fun q => by rw [q] at h81; exact absurd h81 (by decide))
    refine g_aload_n (n := 86) hC rfl dX8_reports_85 ?_
    refine m_get (v := .ref (M + 15)) (n := 89) hC hD gf_X8_59 dX8_reports_86 rfl ?_
    refine g_iconst (n := 90) (v := (nI 3)) hC (by decide) dX8_reports_89 ?_
    refine g_bipush (n := 92) (v := (nI 20)) hC (by decide) dX8_reports_90 ?_
    refine g_aload_n (n := 93) hC rfl dX8_reports_92 ?_
    refine m_get (v := .ref (M + 2)) (n := 96) hC hD gf_X8_20 dX8_reports_93 rfl ?_
    refine g_bipush (n := 98) (v := (nI 98)) hC (by decide) dX8_reports_96 ?_
    refine g_iload_n (n := 99) hC rfl dX8_reports_98 ?_
    refine g_iaddN (n := 100) hC dX8_reports_99 ?_
    refine m_ld5 (x := ((ar 5) (98 + c))) (n := 101) hC hD (98 + c) dX8_reports_100 (rfl) (by omega) (rfl) ?_
    refine g_iadd (n := 102) hC dX8_reports_101 ?_
    refine m_st25 (f := (va_up (va_up (va_up (ar 25) 0 (nI 1)) 1 (nI (2 + who))) 2 ((nI 10) + ((ar 5) c)))) (n := 103) hC hD 3 dX8_reports_102 (rfl) (by omega) rfl ?_
    refine g_aload_n (n := 104) hC rfl dX8_reports_103 ?_
    refine m_get (v := .ref (M + 16)) (n := 107) hC hD gf_X8_62 dX8_reports_104 rfl ?_
    refine g_iconst (n := 108) (v := (nI 3)) hC (by decide) dX8_reports_107 ?_
    refine g_aload_n (n := 109) hC rfl dX8_reports_108 ?_
    refine m_get (v := .ref (M + 7)) (n := 112) hC hD gf_X8_35 dX8_reports_109 rfl ?_
    refine g_bipush (n := 114) (v := (nI 8)) hC (by decide) dX8_reports_112 ?_
    refine g_aload_n (n := 115) hC rfl dX8_reports_114 ?_
    refine m_get (v := .ref (M + 2)) (n := 118) hC hD gf_X8_20 dX8_reports_115 rfl ?_
    refine g_bipush (n := 120) (v := (nI 49)) hC (by decide) dX8_reports_118 ?_
    refine g_iload_n (n := 121) hC rfl dX8_reports_120 ?_
    refine g_iaddN (n := 122) hC dX8_reports_121 ?_
    refine m_ld5 (x := (nI sn)) (n := 123) hC hD (49 + c) dX8_reports_122 (rfl) (by omega) (es) ?_
    refine g_imulN (n := 124) hC dX8_reports_123 ?_
    refine g_aload_n (n := 125) hC rfl dX8_reports_124 ?_
    refine m_get (v := .ref (M + 2)) (n := 128) hC hD gf_X8_20 dX8_reports_125 rfl ?_
    refine g_bipush (n := 130) (v := (nI 98)) hC (by decide) dX8_reports_128 ?_
    refine g_iload_n (n := 131) hC rfl dX8_reports_130 ?_
    refine g_iaddN (n := 132) hC dX8_reports_131 ?_
    refine m_ld5 (x := (nI wn)) (n := 133) hC hD (98 + c) dX8_reports_132 (rfl) (by omega) (ew) ?_
    refine g_iaddN (n := 134) hC dX8_reports_133 ?_
    refine m_ld10 (x := ((ar 10) ((8 * sn) + wn))) (n := 135) hC hD ((8 * sn) + wn) dX8_reports_134 (rfl) (by omega) (rfl) ?_
    refine m_st26 (f := (va_up (va_up (va_up (ar 26) 0 ((ar 5) 153)) 1 (nI c)) 2 ((ar 5) (49 + c)))) (n := 136) hC hD 3 dX8_reports_135 (rfl) (by omega) rfl ?_
    refine g_aload_n (n := 137) hC rfl dX8_reports_136 ?_
    refine g_iconst (n := 138) (v := (nI 4)) hC (by decide) dX8_reports_137 ?_
    refine m_put27 (n := 141) hC hD gp_X8_154 dX8_reports_138 ?_
    refine G.eqs mdl_ss ?_
    exact g_vret hC dX8_reports_141 (⟨rfl, rfl, rfl, Or.inr ⟨sn, wn, hsn, hwn, es, ew, (congrArg (fun q => mdl K M _ q σ0) (funext fun i => by by_cases e1 : i = 25 <;> by_cases e2 : i = 26 <;> simp [va_up, rp3C, rp3D, e1, e2] <;> omega))⟩⟩)
  ·
    have hm1 : ar 5 (98 + c) = -1 := hwv.resolve_right (fun q => by obtain ⟨sn, wn, q1, q2, q3, q4⟩ := q; rw [q4] at h81; exact h81 (nI_pos' (by omega)))
    exact g_vret hC dX8_reports_84 (⟨rfl, rfl, rfl, Or.inl ⟨hm1, (congrArg (fun q => mdl K M _ q σ0) (funext fun i => by by_cases e1 : i = 25 <;> by_cases e2 : i = 26 <;> simp [va_up, rp3C, rp3D, e1, e2] <;> omega))⟩⟩)
