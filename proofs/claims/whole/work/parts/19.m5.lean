noncomputable def pyF (f g : Nat → Int32) (w h p x : Nat) : Int32 := if x = 0 then scF f g (w * h) p else if x = 1 then nI (mny f (w * h) (nI (1 + p))) else if x = 2 then nI (mny f (w * h) (nI (3 + p))) else if x = 3 then f (147 + p) else if x = 4 then g p else if x = 5 then f (149 + p) else if x = 6 then nI (rgC w h (outF f (w * h) p) (w * h)) else nI (rgM w h (outF f (w * h) p) (w * h))
def stF (w h : Nat) (op em : Int64) (c : Nat) : Prop := True

set_option maxRecDepth 20000 in
theorem M_player (K : GK) {M : Nat} {sc : Nat → Int32} {ar : Nat → Nat → Int32} {σ0 : GS} {L : List Nat} {z : Nat} (hD : mdom M L) {w h : Nat} (hB : mB sc w h) {p x : Int32} : gM K yX8_player cX8_player 3 (some .int) 5 0 0 [.ref M, .int p, .int x] z L (mdl K M sc ar σ0) (fun r z1 L1 σ2 => z1 = z ∧ L1 = L ∧ ((¬ inR 0 1 p ∧ r = some (.int (nI 0)) ∧ σ2 = mdl K M (va_up sc 0 (nI 1)) ar σ0) ∨ (inR 0 1 p ∧ ¬ inR 0 7 x ∧ r = some (.int (nI 0)) ∧ σ2 = mdl K M (va_up sc 0 (nI 2)) ar σ0) ∨ (∃ p0 x0, p0 ≤ 1 ∧ x0 ≤ 7 ∧ p = nI p0 ∧ x = nI x0 ∧ r = some (.int (pyF (ar 5) (ar 4) w h p0 x0)) ∧ σ2 = mdl K M (va_up sc 0 (nI 0)) ar σ0))) := by
  obtain ⟨hw, hh, hw1, hw2, hh1, hh2⟩ := id hB
  have hn : w * h ≤ 49 := Nat.mul_le_mul hw2 hh2
  have hn1 : 16 ≤ w * h := Nat.mul_le_mul hw1 hh1
  refine g_intro [some (.ref M), some (.int p), some (.int x)] (fun Γ hC => ?_) (by simp [g_en, lv_args, Value.category])
  refine g_aload_n (n := 1) hC rfl dX8_player_0 ?_
  refine g_iload_n (n := 2) hC rfl dX8_player_1 ?_
  refine g_iconst (n := 3) (v := (nI 0)) hC (by decide) dX8_player_2 ?_
  refine g_iconst (n := 4) (v := (nI 1)) hC (by decide) dX8_player_3 ?_
  refine g_cS (n := 7) hC gs_X8_80 (M_isInN K hD 0 1 (by omega) (by omega)) dX8_player_4 ?_
  refine g_ifb_ne (n := 10) (tgt := 14) hC dX8_player_7 (fun h7 => ?_) (fun h7 => ?_)
  ·
    obtain ⟨p0, hp0, hp1, rfl⟩ := h7
    refine g_iload_n (n := 15) hC rfl dX8_player_14 ?_
    refine g_iconst (n := 16) (v := (nI 0)) hC (by decide) dX8_player_15 ?_
    refine g_bipush (n := 18) (v := (nI 7)) hC (by decide) dX8_player_16 ?_
    refine g_cS (n := 21) hC gs_X8_80 (M_isInN K hD 0 7 (by omega) (by omega)) dX8_player_18 ?_
    refine g_ifb_ne (n := 24) (tgt := 28) hC dX8_player_21 (fun h21 => ?_) (fun h21 => ?_)
    ·
      obtain ⟨x0, hx0, hx1, rfl⟩ := h21
      refine g_iconst (n := 29) (v := (nI 0)) hC (by decide) dX8_player_28 ?_
      refine m_put0 (n := 32) hC hD gp_X8_73 dX8_player_29 ?_
      refine g_aload_n (n := 33) hC rfl dX8_player_32 ?_
      refine m_get (v := .int (nI 0)) (n := 36) hC hD gf_X8_73 dX8_player_33 rfl ?_
      refine g_if_le (n := 39) (tgt := 41) hC dX8_player_36 (fun _ => ?_) (fun h9 => absurd h9 (by decide))
      refine g_iload_n (n := 42) hC rfl dX8_player_41 ?_
      refine g_tsw (n := 131) hC dX8_player_42 (by decide) (fun j9 hj9 e9 tgt9 ht9 => ?_) (fun ho9 => ?_)
      · match j9, hj9 with
        | 0, _ =>
          obtain rfl : tgt9 = 80 := by revert ht9; show _ = (_ : Int) → _; intro ht9; exact (by have h8 := ht9; simp at h8; omega)
          obtain rfl : x0 = 0 := (nI_eq (by omega) (by omega)).mp e9
          refine g_aload_n (n := 81) hC rfl dX8_player_80 ?_
          refine g_iload_n (n := 82) hC rfl dX8_player_81 ?_
          refine g_cV (n := 85) hC gv_X8_138 (hD 0 (by decide)) mdl_0 (M_score K hD (show mB (va_up sc 0 (nI 0)) w h from hB) (p := p0) (by omega)) dX8_player_82 ?_
          exact g_iret hC dX8_player_85 (⟨rfl, rfl, (Or.inr (Or.inr ⟨p0, _, hp1, hx1, rfl, rfl, rfl, rfl⟩))⟩)
        | 1, _ =>
          obtain rfl : tgt9 = 86 := by revert ht9; show _ = (_ : Int) → _; intro ht9; exact (by have h8 := ht9; simp at h8; omega)
          obtain rfl : x0 = 1 := (nI_eq (by omega) (by omega)).mp e9
          refine g_aload_n (n := 87) hC rfl dX8_player_86 ?_
          refine g_iconst (n := 88) (v := (nI 1)) hC (by decide) dX8_player_87 ?_
          refine g_iload_n (n := 89) hC rfl dX8_player_88 ?_
          refine g_iaddN (n := 90) hC dX8_player_89 ?_
          refine g_cV (n := 93) hC gv_X8_84 (hD 0 (by decide)) mdl_0 (M_many K hD (show mB (va_up sc 0 (nI 0)) w h from hB)) dX8_player_90 ?_
          exact g_iret hC dX8_player_93 (⟨rfl, rfl, (Or.inr (Or.inr ⟨p0, _, hp1, hx1, rfl, rfl, rfl, rfl⟩))⟩)
        | 2, _ =>
          obtain rfl : tgt9 = 94 := by revert ht9; show _ = (_ : Int) → _; intro ht9; exact (by have h8 := ht9; simp at h8; omega)
          obtain rfl : x0 = 2 := (nI_eq (by omega) (by omega)).mp e9
          refine g_aload_n (n := 95) hC rfl dX8_player_94 ?_
          refine g_iconst (n := 96) (v := (nI 3)) hC (by decide) dX8_player_95 ?_
          refine g_iload_n (n := 97) hC rfl dX8_player_96 ?_
          refine g_iaddN (n := 98) hC dX8_player_97 ?_
          refine g_cV (n := 101) hC gv_X8_84 (hD 0 (by decide)) mdl_0 (M_many K hD (show mB (va_up sc 0 (nI 0)) w h from hB)) dX8_player_98 ?_
          exact g_iret hC dX8_player_101 (⟨rfl, rfl, (Or.inr (Or.inr ⟨p0, _, hp1, hx1, rfl, rfl, rfl, rfl⟩))⟩)
        | 3, _ =>
          obtain rfl : tgt9 = 102 := by revert ht9; show _ = (_ : Int) → _; intro ht9; exact (by have h8 := ht9; simp at h8; omega)
          obtain rfl : x0 = 3 := (nI_eq (by omega) (by omega)).mp e9
          refine g_aload_n (n := 103) hC rfl dX8_player_102 ?_
          refine m_get (v := .ref (M + 2)) (n := 106) hC hD gf_X8_20 dX8_player_103 rfl ?_
          refine g_sipush (n := 109) (v := (nI 147)) hC (by decide) dX8_player_106 ?_
          refine g_iload_n (n := 110) hC rfl dX8_player_109 ?_
          refine g_iaddN (n := 111) hC dX8_player_110 ?_
          refine m_ld5 (x := ((ar 5) (147 + p0))) (n := 112) hC hD (147 + p0) dX8_player_111 (rfl) (by omega) (rfl) ?_
          exact g_iret hC dX8_player_112 (⟨rfl, rfl, (Or.inr (Or.inr ⟨p0, _, hp1, hx1, rfl, rfl, rfl, rfl⟩))⟩)
        | 4, _ =>
          obtain rfl : tgt9 = 113 := by revert ht9; show _ = (_ : Int) → _; intro ht9; exact (by have h8 := ht9; simp at h8; omega)
          obtain rfl : x0 = 4 := (nI_eq (by omega) (by omega)).mp e9
          refine g_aload_n (n := 114) hC rfl dX8_player_113 ?_
          refine m_get (v := .ref (M + 1)) (n := 117) hC hD gf_X8_16 dX8_player_114 rfl ?_
          refine g_iload_n (n := 118) hC rfl dX8_player_117 ?_
          refine m_ld4 (x := ((ar 4) p0)) (n := 119) hC hD p0 dX8_player_118 (rfl) (by omega) (rfl) ?_
          exact g_iret hC dX8_player_119 (⟨rfl, rfl, (Or.inr (Or.inr ⟨p0, _, hp1, hx1, rfl, rfl, rfl, rfl⟩))⟩)
        | 5, _ =>
          obtain rfl : tgt9 = 120 := by revert ht9; show _ = (_ : Int) → _; intro ht9; exact (by have h8 := ht9; simp at h8; omega)
          obtain rfl : x0 = 5 := (nI_eq (by omega) (by omega)).mp e9
          refine g_aload_n (n := 121) hC rfl dX8_player_120 ?_
          refine m_get (v := .ref (M + 2)) (n := 124) hC hD gf_X8_20 dX8_player_121 rfl ?_
          refine g_sipush (n := 127) (v := (nI 149)) hC (by decide) dX8_player_124 ?_
          refine g_iload_n (n := 128) hC rfl dX8_player_127 ?_
          refine g_iaddN (n := 129) hC dX8_player_128 ?_
          refine m_ld5 (x := ((ar 5) (149 + p0))) (n := 130) hC hD (149 + p0) dX8_player_129 (rfl) (by omega) (rfl) ?_
          exact g_iret hC dX8_player_130 (⟨rfl, rfl, (Or.inr (Or.inr ⟨p0, _, hp1, hx1, rfl, rfl, rfl, rfl⟩))⟩)
        | j + 6, hj => exact absurd hj (by simp)
      ·
        have hx6 : 6 ≤ x0 := by
          rcases Nat.lt_or_ge x0 6 with q | q
          · exact absurd rfl (ho9 x0 q)
          · exact q
        refine g_aload_n (n := 132) hC rfl dX8_player_131 ?_
        refine g_iload_n (n := 133) hC rfl dX8_player_132 ?_
        refine g_iload_n (n := 134) hC rfl dX8_player_133 ?_
        refine g_bipush (n := 136) (v := (nI 7)) hC (by decide) dX8_player_134 ?_
        refine g_icmp_neN (n := 139) (tgt := 143) hC (by omega) (by omega) dX8_player_136 (fun h136 => ?_) (fun h136 => ?_)
        ·
          refine g_iconst (n := 144) (v := (nI 0)) hC (by decide) dX8_player_143 ?_
          refine g_cV (n := 147) hC gv_X8_181 (hD 0 (by decide)) mdl_0 (M_regions K hD (show mB (va_up sc 0 (nI 0)) w h from hB) (p := p0) (g := 0) hp1 (by omega)) dX8_player_144 ?_
          exact g_iret hC dX8_player_147 (⟨rfl, rfl, (Or.inr (Or.inr ⟨p0, _, hp1, hx1, rfl, rfl, by obtain rfl : x0 = 6 := (by have := h136; omega); rfl, rfl⟩))⟩)
        ·
          refine g_iconst (n := 140) (v := (nI 1)) hC (by decide) dX8_player_139 ?_
          refine g_goto (n := 144) hC dX8_player_140 ?_
          refine g_cV (n := 147) hC gv_X8_181 (hD 0 (by decide)) mdl_0 (M_regions K hD (show mB (va_up sc 0 (nI 0)) w h from hB) (p := p0) (g := 1) hp1 (by omega)) dX8_player_144 ?_
          exact g_iret hC dX8_player_147 (⟨rfl, rfl, (Or.inr (Or.inr ⟨p0, _, hp1, hx1, rfl, rfl, by obtain rfl : x0 = 7 := h136; rfl, rfl⟩))⟩)
    ·
      refine g_iconst (n := 25) (v := (nI 2)) hC (by decide) dX8_player_24 ?_
      refine g_goto (n := 29) hC dX8_player_25 ?_
      refine m_put0 (n := 32) hC hD gp_X8_73 dX8_player_29 ?_
      refine g_aload_n (n := 33) hC rfl dX8_player_32 ?_
      refine m_get (v := .int (nI 2)) (n := 36) hC hD gf_X8_73 dX8_player_33 rfl ?_
      refine g_if_le (n := 39) (tgt := 41) hC dX8_player_36 (fun h9 => absurd h9 (by decide)) (fun _ => ?_)
      refine g_iconst (n := 40) (v := (nI 0)) hC (by decide) dX8_player_39 ?_
      exact g_iret hC dX8_player_40 (⟨rfl, rfl, (Or.inr (Or.inl ⟨⟨p0, hp0, hp1, rfl⟩, h21, rfl, rfl⟩))⟩)
  ·
    refine g_iconst (n := 11) (v := (nI 1)) hC (by decide) dX8_player_10 ?_
    refine g_goto (n := 29) hC dX8_player_11 ?_
    refine m_put0 (n := 32) hC hD gp_X8_73 dX8_player_29 ?_
    refine g_aload_n (n := 33) hC rfl dX8_player_32 ?_
    refine m_get (v := .int (nI 1)) (n := 36) hC hD gf_X8_73 dX8_player_33 rfl ?_
    refine g_if_le (n := 39) (tgt := 41) hC dX8_player_36 (fun h9 => absurd h9 (by decide)) (fun _ => ?_)
    refine g_iconst (n := 40) (v := (nI 0)) hC (by decide) dX8_player_39 ?_
    exact g_iret hC dX8_player_40 (⟨rfl, rfl, (Or.inl ⟨h7, rfl, rfl⟩)⟩)

set_option maxRecDepth 20000 in
theorem M_region (K : GK) {M : Nat} {sc : Nat → Int32} {ar : Nat → Nat → Int32} {σ0 : GS} {L : List Nat} {z : Nat} (hD : mdom M L) {w h : Nat} (hB : mB sc w h) {p c : Int32} : gM K yX8_region cX8_region 3 (some .long) 5 0 0 [.ref M, .int p, .int c] z L (mdl K M sc ar σ0) (fun r z1 L1 σ2 => z1 = z ∧ L1 = L ∧ ((¬ (inR 0 1 p ∧ inN (w * h) c) ∧ r = some (.long 0) ∧ σ2 = mdl K M (va_up sc 0 (nI 1)) ar σ0) ∨ (∃ p0 c0, p0 ≤ 1 ∧ c0 < w * h ∧ p = nI p0 ∧ c = nI c0 ∧ tb (outF (ar 5) (w * h) p0) c0 = false ∧ r = some (.long 0) ∧ σ2 = mdl K M (va_up sc 0 (nI 2)) ar σ0) ∨ (∃ p0 c0, p0 ≤ 1 ∧ c0 < w * h ∧ p = nI p0 ∧ c = nI c0 ∧ tb (outF (ar 5) (w * h) p0) c0 = true ∧ r = some (.long (rgn w h (outF (ar 5) (w * h) p0) c0)) ∧ σ2 = mdl K M (va_up sc 0 (nI 0)) ar σ0))) := by
  obtain ⟨hw, hh, hw1, hw2, hh1, hh2⟩ := id hB
  have hn : w * h ≤ 49 := Nat.mul_le_mul hw2 hh2
  have hn1 : 16 ≤ w * h := Nat.mul_le_mul hw1 hh1
  refine g_intro [some (.ref M), some (.int p), some (.int c)] (fun Γ hC => ?_) (by simp [g_en, lv_args, Value.category])
  refine g_aload_n (n := 1) hC rfl dX8_region_0 ?_
  refine g_iload_n (n := 2) hC rfl dX8_region_1 ?_
  refine g_iconst (n := 3) (v := (nI 0)) hC (by decide) dX8_region_2 ?_
  refine g_iconst (n := 4) (v := (nI 1)) hC (by decide) dX8_region_3 ?_
  refine g_cS (n := 7) hC gs_X8_80 (M_isInN K hD 0 1 (by omega) (by omega)) dX8_region_4 ?_
  refine g_ifb_eq (n := 10) (tgt := 18) hC dX8_region_7 (fun h7 => ?_) (fun h7 => ?_)
  ·
    refine g_iconst (n := 19) (v := (nI 1)) hC (by decide) dX8_region_18 ?_
    refine g_goto (n := 36) hC dX8_region_19 ?_
    refine m_put0 (n := 39) hC hD gp_X8_73 dX8_region_36 ?_
    refine g_aload_n (n := 40) hC rfl dX8_region_39 ?_
    refine m_get (v := .int (nI 1)) (n := 43) hC hD gf_X8_73 dX8_region_40 rfl ?_
    refine g_if_ne (n := 46) (tgt := 59) hC dX8_region_43 (fun _ => ?_) (fun h9 => absurd h9 (by decide))
    refine g_lconst (n := 60) (v := 0) hC (by decide) dX8_region_59 ?_
    exact g_lret hC dX8_region_60 (⟨rfl, rfl, (Or.inl ⟨fun q => h7 q.1, rfl, rfl⟩)⟩)
  ·
    obtain ⟨p0, hp0, hp1, rfl⟩ := h7
    refine g_aload_n (n := 11) hC rfl dX8_region_10 ?_
    refine g_iload_n (n := 12) hC rfl dX8_region_11 ?_
    refine g_cV (n := 15) hC gv_X8_150 (hD 0 (by decide)) mdl_0 (M_isCellN K hD hB) dX8_region_12 ?_
    refine g_ifb_ne (n := 18) (tgt := 22) hC dX8_region_15 (fun h15 => ?_) (fun h15 => ?_)
    ·
      obtain ⟨c0, hc1, rfl⟩ := h15
      refine g_aload_n (n := 23) hC rfl dX8_region_22 ?_
      refine g_iload_n (n := 24) hC rfl dX8_region_23 ?_
      refine g_iload_n (n := 25) hC rfl dX8_region_24 ?_
      refine g_cV (n := 28) hC gv_X8_185 (hD 0 (by decide)) mdl_0 (M_isOutside K hD hB (p := p0) (c := c0) (by omega) (by omega)) dX8_region_25 ?_
      refine g_ifb_ne (n := 31) (tgt := 35) hC dX8_region_28 (fun h28 => ?_) (fun h28 => ?_)
      ·
        refine g_iconst (n := 36) (v := (nI 0)) hC (by decide) dX8_region_35 ?_
        refine m_put0 (n := 39) hC hD gp_X8_73 dX8_region_36 ?_
        refine g_aload_n (n := 40) hC rfl dX8_region_39 ?_
        refine m_get (v := .int (nI 0)) (n := 43) hC hD gf_X8_73 dX8_region_40 rfl ?_
        refine g_if_ne (n := 46) (tgt := 59) hC dX8_region_43 (fun h9 => absurd h9 (by decide)) (fun _ => ?_)
        refine g_aload_n (n := 47) hC rfl dX8_region_46 ?_
        refine g_aload_n (n := 48) hC rfl dX8_region_47 ?_
        refine g_iload_n (n := 49) hC rfl dX8_region_48 ?_
        refine g_cV (n := 52) hC gv_X8_111 (hD 0 (by decide)) mdl_0 (M_outside K hD (show mB (va_up sc 0 (nI 0)) w h from hB) (p := p0) (by omega)) dX8_region_49 ?_
        refine g_iload_n (n := 53) hC rfl dX8_region_52 ?_
        refine g_cV (n := 56) hC gv_X8_121 (hD 0 (by decide)) mdl_0 (M_connected K hD (show mB (va_up sc 0 (nI 0)) w h from hB) (x := outF (ar 5) (w * h) p0) (fun i hi => outF_lt (by omega) hi) h28) dX8_region_53 ?_
        refine g_goto (n := 60) hC dX8_region_56 ?_
        exact g_lret hC dX8_region_60 (⟨rfl, rfl, (Or.inr (Or.inr ⟨p0, c0, hp1, hc1, rfl, rfl, h28, rfl, rfl⟩))⟩)
      ·
        refine g_iconst (n := 32) (v := (nI 2)) hC (by decide) dX8_region_31 ?_
        refine g_goto (n := 36) hC dX8_region_32 ?_
        refine m_put0 (n := 39) hC hD gp_X8_73 dX8_region_36 ?_
        refine g_aload_n (n := 40) hC rfl dX8_region_39 ?_
        refine m_get (v := .int (nI 2)) (n := 43) hC hD gf_X8_73 dX8_region_40 rfl ?_
        refine g_if_ne (n := 46) (tgt := 59) hC dX8_region_43 (fun _ => ?_) (fun h9 => absurd h9 (by decide))
        refine g_lconst (n := 60) (v := 0) hC (by decide) dX8_region_59 ?_
        exact g_lret hC dX8_region_60 (⟨rfl, rfl, (Or.inr (Or.inl ⟨p0, c0, hp1, hc1, rfl, rfl, by simpa using h28, rfl, rfl⟩))⟩)
    ·
      refine g_iconst (n := 19) (v := (nI 1)) hC (by decide) dX8_region_18 ?_
      refine g_goto (n := 36) hC dX8_region_19 ?_
      refine m_put0 (n := 39) hC hD gp_X8_73 dX8_region_36 ?_
      refine g_aload_n (n := 40) hC rfl dX8_region_39 ?_
      refine m_get (v := .int (nI 1)) (n := 43) hC hD gf_X8_73 dX8_region_40 rfl ?_
      refine g_if_ne (n := 46) (tgt := 59) hC dX8_region_43 (fun _ => ?_) (fun h9 => absurd h9 (by decide))
      refine g_lconst (n := 60) (v := 0) hC (by decide) dX8_region_59 ?_
      exact g_lret hC dX8_region_60 (⟨rfl, rfl, (Or.inl ⟨fun q => h15 q.2, rfl, rfl⟩)⟩)

set_option maxRecDepth 20000 in
theorem M_cellsS (K : GK) {M : Nat} {sc : Nat → Int32} {ar : Nat → Nat → Int32} {σ0 : GS} {L : List Nat} {z : Nat} (hD : mdom M L) {w h : Nat} (hB : mB sc w h) {x : Int32} : gM K yX8_cells_ cX8_cells_ 2 (some .long) 2 0 0 [.ref M, .int x] z L (mdl K M sc ar σ0) (fun r z1 L1 σ2 => z1 = z ∧ L1 = L ∧ ((¬ inR 0 5 x ∧ r = some (.long 0) ∧ σ2 = mdl K M (va_up sc 0 (nI 1)) ar σ0) ∨ (∃ x0, x0 ≤ 5 ∧ x = nI x0 ∧ r = some (.long (bitsF (fun i => decide (ar 5 i = nI x0)) (w * h))) ∧ σ2 = mdl K M (va_up sc 0 (nI 0)) ar σ0))) := by
  obtain ⟨hw, hh, hw1, hw2, hh1, hh2⟩ := id hB
  have hn : w * h ≤ 49 := Nat.mul_le_mul hw2 hh2
  have hn1 : 16 ≤ w * h := Nat.mul_le_mul hw1 hh1
  refine g_intro [some (.ref M), some (.int x)] (fun Γ hC => ?_) (by simp [g_en, lv_args, Value.category])
  refine g_aload_n (n := 1) hC rfl dX8_cells__0 ?_
  refine g_iload_n (n := 2) hC rfl dX8_cells__1 ?_
  refine g_iconst (n := 3) (v := (nI 0)) hC (by decide) dX8_cells__2 ?_
  refine g_iconst (n := 4) (v := (nI 5)) hC (by decide) dX8_cells__3 ?_
  refine g_cS (n := 7) hC gs_X8_80 (M_isInN K hD 0 5 (by omega) (by omega)) dX8_cells__4 ?_
  refine g_ifb_eq (n := 10) (tgt := 14) hC dX8_cells__7 (fun h7 => ?_) (fun h7 => ?_)
  ·
    refine g_iconst (n := 15) (v := (nI 1)) hC (by decide) dX8_cells__14 ?_
    refine m_put0 (n := 18) hC hD gp_X8_73 dX8_cells__15 ?_
    refine g_aload_n (n := 19) hC rfl dX8_cells__18 ?_
    refine m_get (v := .int (nI 1)) (n := 22) hC hD gf_X8_73 dX8_cells__19 rfl ?_
    refine g_if_ne (n := 25) (tgt := 33) hC dX8_cells__22 (fun _ => ?_) (fun h9 => absurd h9 (by decide))
    refine g_lconst (n := 34) (v := 0) hC (by decide) dX8_cells__33 ?_
    exact g_lret hC dX8_cells__34 (⟨rfl, rfl, (Or.inl ⟨h7, rfl, rfl⟩)⟩)
  ·
    obtain ⟨x0, hx0, hx1, rfl⟩ := h7
    refine g_iconst (n := 11) (v := (nI 0)) hC (by decide) dX8_cells__10 ?_
    refine g_goto (n := 15) hC dX8_cells__11 ?_
    refine m_put0 (n := 18) hC hD gp_X8_73 dX8_cells__15 ?_
    refine g_aload_n (n := 19) hC rfl dX8_cells__18 ?_
    refine m_get (v := .int (nI 0)) (n := 22) hC hD gf_X8_73 dX8_cells__19 rfl ?_
    refine g_if_ne (n := 25) (tgt := 33) hC dX8_cells__22 (fun h9 => absurd h9 (by decide)) (fun _ => ?_)
    refine g_aload_n (n := 26) hC rfl dX8_cells__25 ?_
    refine g_iload_n (n := 27) hC rfl dX8_cells__26 ?_
    refine g_cV (n := 30) hC gv_X8_105 (hD 0 (by decide)) mdl_0 (M_bits K hD (show mB (va_up sc 0 (nI 0)) w h from hB)) dX8_cells__27 ?_
    refine g_goto (n := 34) hC dX8_cells__30 ?_
    exact g_lret hC dX8_cells__34 (⟨rfl, rfl, (Or.inr ⟨x0, hx1, rfl, rfl, rfl⟩)⟩)

set_option maxRecDepth 20000 in
theorem M_chain (K : GK) {M : Nat} {sc : Nat → Int32} {ar : Nat → Nat → Int32} {σ0 : GS} {L : List Nat} {z : Nat} (hD : mdom M L) {w h : Nat} (hB : mB sc w h) {c : Int32} : gM K yX8_chain cX8_chain 2 (some .long) 4 0 0 [.ref M, .int c] z L (mdl K M sc ar σ0) (fun r z1 L1 σ2 => z1 = z ∧ L1 = L ∧ ((¬ inN (w * h) c ∧ r = some (.long 0) ∧ σ2 = mdl K M (va_up sc 0 (nI 1)) ar σ0) ∨ (∃ c0, c0 < w * h ∧ c = nI c0 ∧ ¬ ar 5 c0 = nI 1 ∧ ¬ ar 5 c0 = nI 2 ∧ r = some (.long 0) ∧ σ2 = mdl K M (va_up sc 0 (nI 2)) ar σ0) ∨ (∃ c0, c0 < w * h ∧ c = nI c0 ∧ (ar 5 c0 = nI 1 ∨ ar 5 c0 = nI 2) ∧ r = some (.long (rgn w h (bitsF (fun i => decide (ar 5 i = ar 5 c0)) (w * h)) c0)) ∧ σ2 = mdl K M (va_up sc 0 (nI 0)) ar σ0))) := by
  obtain ⟨hw, hh, hw1, hw2, hh1, hh2⟩ := id hB
  have hn : w * h ≤ 49 := Nat.mul_le_mul hw2 hh2
  have hn1 : 16 ≤ w * h := Nat.mul_le_mul hw1 hh1
  refine g_intro [some (.ref M), some (.int c)] (fun Γ hC => ?_) (by simp [g_en, lv_args, Value.category])
  refine g_aload_n (n := 1) hC rfl dX8_chain_0 ?_
  refine g_aload_n (n := 2) hC rfl dX8_chain_1 ?_
  refine g_iload_n (n := 3) hC rfl dX8_chain_2 ?_
  refine g_cV (n := 6) hC gv_X8_150 (hD 0 (by decide)) mdl_0 (M_isCellN K hD hB) dX8_chain_3 ?_
  refine g_ifb_ne (n := 9) (tgt := 13) hC dX8_chain_6 (fun h6 => ?_) (fun h6 => ?_)
  ·
    obtain ⟨c0, hc1, rfl⟩ := h6
    refine g_aload_n (n := 14) hC rfl dX8_chain_13 ?_
    refine m_get (v := .ref (M + 2)) (n := 17) hC hD gf_X8_20 dX8_chain_14 rfl ?_
    refine g_iload_n (n := 18) hC rfl dX8_chain_17 ?_
    refine m_ld5 (x := ((ar 5) c0)) (n := 19) hC hD c0 dX8_chain_18 (rfl) (by omega) (rfl) ?_
    refine g_iconst (n := 20) (v := (nI 1)) hC (by decide) dX8_chain_19 ?_
    refine g_icmp_eq (n := 23) (tgt := 37) hC dX8_chain_20 (fun h20 => ?_) (fun h20 => ?_)
    ·
      refine g_iconst (n := 38) (v := (nI 0)) hC (by decide) dX8_chain_37 ?_
      refine m_put0 (n := 41) hC hD gp_X8_73 dX8_chain_38 ?_
      refine g_aload_n (n := 42) hC rfl dX8_chain_41 ?_
      refine m_get (v := .int (nI 0)) (n := 45) hC hD gf_X8_73 dX8_chain_42 rfl ?_
      refine g_if_ne (n := 48) (tgt := 66) hC dX8_chain_45 (fun h9 => absurd h9 (by decide)) (fun _ => ?_)
      refine g_aload_n (n := 49) hC rfl dX8_chain_48 ?_
      refine g_aload_n (n := 50) hC rfl dX8_chain_49 ?_
      refine g_aload_n (n := 51) hC rfl dX8_chain_50 ?_
      refine m_get (v := .ref (M + 2)) (n := 54) hC hD gf_X8_20 dX8_chain_51 rfl ?_
      refine g_iload_n (n := 55) hC rfl dX8_chain_54 ?_
      refine m_ld5 (x := ((ar 5) c0)) (n := 56) hC hD c0 dX8_chain_55 (rfl) (by omega) (rfl) ?_
      refine g_cV (n := 59) hC gv_X8_105 (hD 0 (by decide)) mdl_0 (M_bits K hD (show mB (va_up sc 0 (nI 0)) w h from hB)) dX8_chain_56 ?_
      refine g_iload_n (n := 60) hC rfl dX8_chain_59 ?_
      refine g_cV (n := 63) hC gv_X8_121 (hD 0 (by decide)) mdl_0 (M_connected K hD (show mB (va_up sc 0 (nI 0)) w h from hB) (x := bitsF (fun i => decide (ar 5 i = ar 5 c0)) (w * h)) (fun i hi => bitsF_lt (by omega) hi) (bitsF_self (by omega) hc1 (by simp))) dX8_chain_60 ?_
      refine g_goto (n := 67) hC dX8_chain_63 ?_
      exact g_lret hC dX8_chain_67 (⟨rfl, rfl, (Or.inr (Or.inr ⟨c0, hc1, rfl, Or.inl h20, rfl, rfl⟩))⟩)
    ·
      refine g_aload_n (n := 24) hC rfl dX8_chain_23 ?_
      refine m_get (v := .ref (M + 2)) (n := 27) hC hD gf_X8_20 dX8_chain_24 rfl ?_
      refine g_iload_n (n := 28) hC rfl dX8_chain_27 ?_
      refine m_ld5 (x := ((ar 5) c0)) (n := 29) hC hD c0 dX8_chain_28 (rfl) (by omega) (rfl) ?_
      refine g_iconst (n := 30) (v := (nI 2)) hC (by decide) dX8_chain_29 ?_
      refine g_icmp_eq (n := 33) (tgt := 37) hC dX8_chain_30 (fun h30 => ?_) (fun h30 => ?_)
      ·
        refine g_iconst (n := 38) (v := (nI 0)) hC (by decide) dX8_chain_37 ?_
        refine m_put0 (n := 41) hC hD gp_X8_73 dX8_chain_38 ?_
        refine g_aload_n (n := 42) hC rfl dX8_chain_41 ?_
        refine m_get (v := .int (nI 0)) (n := 45) hC hD gf_X8_73 dX8_chain_42 rfl ?_
        refine g_if_ne (n := 48) (tgt := 66) hC dX8_chain_45 (fun h9 => absurd h9 (by decide)) (fun _ => ?_)
        refine g_aload_n (n := 49) hC rfl dX8_chain_48 ?_
        refine g_aload_n (n := 50) hC rfl dX8_chain_49 ?_
        refine g_aload_n (n := 51) hC rfl dX8_chain_50 ?_
        refine m_get (v := .ref (M + 2)) (n := 54) hC hD gf_X8_20 dX8_chain_51 rfl ?_
        refine g_iload_n (n := 55) hC rfl dX8_chain_54 ?_
        refine m_ld5 (x := ((ar 5) c0)) (n := 56) hC hD c0 dX8_chain_55 (rfl) (by omega) (rfl) ?_
        refine g_cV (n := 59) hC gv_X8_105 (hD 0 (by decide)) mdl_0 (M_bits K hD (show mB (va_up sc 0 (nI 0)) w h from hB)) dX8_chain_56 ?_
        refine g_iload_n (n := 60) hC rfl dX8_chain_59 ?_
        refine g_cV (n := 63) hC gv_X8_121 (hD 0 (by decide)) mdl_0 (M_connected K hD (show mB (va_up sc 0 (nI 0)) w h from hB) (x := bitsF (fun i => decide (ar 5 i = ar 5 c0)) (w * h)) (fun i hi => bitsF_lt (by omega) hi) (bitsF_self (by omega) hc1 (by simp))) dX8_chain_60 ?_
        refine g_goto (n := 67) hC dX8_chain_63 ?_
        exact g_lret hC dX8_chain_67 (⟨rfl, rfl, (Or.inr (Or.inr ⟨c0, hc1, rfl, Or.inr h30, rfl, rfl⟩))⟩)
      ·
        refine g_iconst (n := 34) (v := (nI 2)) hC (by decide) dX8_chain_33 ?_
        refine g_goto (n := 38) hC dX8_chain_34 ?_
        refine m_put0 (n := 41) hC hD gp_X8_73 dX8_chain_38 ?_
        refine g_aload_n (n := 42) hC rfl dX8_chain_41 ?_
        refine m_get (v := .int (nI 2)) (n := 45) hC hD gf_X8_73 dX8_chain_42 rfl ?_
        refine g_if_ne (n := 48) (tgt := 66) hC dX8_chain_45 (fun _ => ?_) (fun h9 => absurd h9 (by decide))
        refine g_lconst (n := 67) (v := 0) hC (by decide) dX8_chain_66 ?_
        exact g_lret hC dX8_chain_67 (⟨rfl, rfl, (Or.inr (Or.inl ⟨c0, hc1, rfl, h20, h30, rfl, rfl⟩))⟩)
  ·
    refine g_iconst (n := 10) (v := (nI 1)) hC (by decide) dX8_chain_9 ?_
    refine g_goto (n := 38) hC dX8_chain_10 ?_
    refine m_put0 (n := 41) hC hD gp_X8_73 dX8_chain_38 ?_
    refine g_aload_n (n := 42) hC rfl dX8_chain_41 ?_
    refine m_get (v := .int (nI 1)) (n := 45) hC hD gf_X8_73 dX8_chain_42 rfl ?_
    refine g_if_ne (n := 48) (tgt := 66) hC dX8_chain_45 (fun _ => ?_) (fun h9 => absurd h9 (by decide))
    refine g_lconst (n := 67) (v := 0) hC (by decide) dX8_chain_66 ?_
    exact g_lret hC dX8_chain_67 (⟨rfl, rfl, (Or.inl ⟨h6, rfl, rfl⟩)⟩)

set_option maxRecDepth 20000 in
theorem M_round (K : GK) {M : Nat} {sc : Nat → Int32} {ar : Nat → Nat → Int32} {σ0 : GS} {L : List Nat} {z : Nat} (hD : mdom M L) {w h : Nat} (hB : mB sc w h) {p x : Int32} {pl : Nat} (hpl : ar 5 153 = nI pl) (hpl60 : pl ≤ 60) : gM K yX8_round cX8_round 3 (some .int) 1 0 0 [.ref M, .int p, .int x] z L (mdl K M sc ar σ0) (fun r z1 L1 σ2 => z1 = z ∧ L1 = L ∧ ((¬ inN pl p ∧ r = some (.int (nI 0)) ∧ σ2 = mdl K M (va_up sc 0 (nI 1)) ar σ0) ∨ (inN pl p ∧ ¬ inR 0 6 x ∧ r = some (.int (nI 0)) ∧ σ2 = mdl K M (va_up sc 0 (nI 2)) ar σ0) ∨ (∃ p0 x0, p0 < pl ∧ x0 ≤ 6 ∧ p = nI p0 ∧ x = nI x0 ∧ r = some (.int (ar 9 (7 * p0 + x0))) ∧ σ2 = mdl K M (va_up sc 0 (nI 0)) ar σ0))) := by
  obtain ⟨hw, hh, hw1, hw2, hh1, hh2⟩ := id hB
  have hn : w * h ≤ 49 := Nat.mul_le_mul hw2 hh2
  have hn1 : 16 ≤ w * h := Nat.mul_le_mul hw1 hh1
  refine g_intro [some (.ref M), some (.int p), some (.int x)] (fun Γ hC => ?_) (by simp [g_en, lv_args, Value.category])
  refine g_aload_n (n := 1) hC rfl dX8_round_0 ?_
  refine g_iload_n (n := 2) hC rfl dX8_round_1 ?_
  refine g_iconst (n := 3) (v := (nI 0)) hC (by decide) dX8_round_2 ?_
  refine g_aload_n (n := 4) hC rfl dX8_round_3 ?_
  refine m_get (v := .ref (M + 2)) (n := 7) hC hD gf_X8_20 dX8_round_4 rfl ?_
  refine g_sipush (n := 10) (v := (nI 153)) hC (by decide) dX8_round_7 ?_
  refine m_ld5 (x := (nI pl)) (n := 11) hC hD 153 dX8_round_10 (rfl) (by omega) (hpl) ?_
  refine g_iconst (n := 12) (v := (nI 1)) hC (by decide) dX8_round_11 ?_
  refine g_isub (n := 13) hC dX8_round_12 ?_
  refine g_cS (n := 16) hC gs_X8_80 (M_isInP K hD pl hpl60) dX8_round_13 ?_
  refine g_ifb_ne (n := 19) (tgt := 23) hC dX8_round_16 (fun h16 => ?_) (fun h16 => ?_)
  ·
    obtain ⟨p0, hp1, rfl⟩ := h16
    refine g_iload_n (n := 24) hC rfl dX8_round_23 ?_
    refine g_iconst (n := 25) (v := (nI 0)) hC (by decide) dX8_round_24 ?_
    refine g_bipush (n := 27) (v := (nI 6)) hC (by decide) dX8_round_25 ?_
    refine g_cS (n := 30) hC gs_X8_80 (M_isInN K hD 0 6 (by omega) (by omega)) dX8_round_27 ?_
    refine g_ifb_ne (n := 33) (tgt := 37) hC dX8_round_30 (fun h30 => ?_) (fun h30 => ?_)
    ·
      obtain ⟨x0, hx0, hx1, rfl⟩ := h30
      refine g_iconst (n := 38) (v := (nI 0)) hC (by decide) dX8_round_37 ?_
      refine m_put0 (n := 41) hC hD gp_X8_73 dX8_round_38 ?_
      refine g_aload_n (n := 42) hC rfl dX8_round_41 ?_
      refine m_get (v := .int (nI 0)) (n := 45) hC hD gf_X8_73 dX8_round_42 rfl ?_
      refine g_if_ne (n := 48) (tgt := 62) hC dX8_round_45 (fun h9 => absurd h9 (by decide)) (fun _ => ?_)
      refine g_aload_n (n := 49) hC rfl dX8_round_48 ?_
      refine m_get (v := .ref (M + 6)) (n := 52) hC hD gf_X8_32 dX8_round_49 rfl ?_
      refine g_bipush (n := 54) (v := (nI 7)) hC (by decide) dX8_round_52 ?_
      refine g_iload_n (n := 55) hC rfl dX8_round_54 ?_
      refine g_imulN (n := 56) hC dX8_round_55 ?_
      refine g_iload_n (n := 57) hC rfl dX8_round_56 ?_
      refine g_iaddN (n := 58) hC dX8_round_57 ?_
      refine m_ld9 (x := ((ar 9) ((7 * p0) + x0))) (n := 59) hC hD ((7 * p0) + x0) dX8_round_58 (rfl) (by omega) (rfl) ?_
      refine g_goto (n := 63) hC dX8_round_59 ?_
      exact g_iret hC dX8_round_63 (⟨rfl, rfl, (Or.inr (Or.inr ⟨p0, x0, hp1, hx1, rfl, rfl, rfl, rfl⟩))⟩)
    ·
      refine g_iconst (n := 34) (v := (nI 2)) hC (by decide) dX8_round_33 ?_
      refine g_goto (n := 38) hC dX8_round_34 ?_
      refine m_put0 (n := 41) hC hD gp_X8_73 dX8_round_38 ?_
      refine g_aload_n (n := 42) hC rfl dX8_round_41 ?_
      refine m_get (v := .int (nI 2)) (n := 45) hC hD gf_X8_73 dX8_round_42 rfl ?_
      refine g_if_ne (n := 48) (tgt := 62) hC dX8_round_45 (fun _ => ?_) (fun h9 => absurd h9 (by decide))
      refine g_iconst (n := 63) (v := (nI 0)) hC (by decide) dX8_round_62 ?_
      exact g_iret hC dX8_round_63 (⟨rfl, rfl, (Or.inr (Or.inl ⟨⟨p0, hp1, rfl⟩, h30, rfl, rfl⟩))⟩)
  ·
    refine g_iconst (n := 20) (v := (nI 1)) hC (by decide) dX8_round_19 ?_
    refine g_goto (n := 38) hC dX8_round_20 ?_
    refine m_put0 (n := 41) hC hD gp_X8_73 dX8_round_38 ?_
    refine g_aload_n (n := 42) hC rfl dX8_round_41 ?_
    refine m_get (v := .int (nI 1)) (n := 45) hC hD gf_X8_73 dX8_round_42 rfl ?_
    refine g_if_ne (n := 48) (tgt := 62) hC dX8_round_45 (fun _ => ?_) (fun h9 => absurd h9 (by decide))
    refine g_iconst (n := 63) (v := (nI 0)) hC (by decide) dX8_round_62 ?_
    exact g_iret hC dX8_round_63 (⟨rfl, rfl, (Or.inl ⟨h16, rfl, rfl⟩)⟩)

set_option maxRecDepth 20000 in
theorem M_turningPoint (K : GK) {M : Nat} {sc : Nat → Int32} {ar : Nat → Nat → Int32} {σ0 : GS} {L : List Nat} {z : Nat} (hD : mdom M L) {w h : Nat} (hB : mB sc w h) {pl : Nat} (hpl : ar 5 153 = nI pl) (hpl60 : pl ≤ 60) : gM K yX8_turningPoint cX8_turningPoint 7 (some .int) 0 0 0 [.ref M] z L (mdl K M sc ar σ0) (fun r z1 L1 σ2 => z1 = z ∧ L1 = L ∧ ((pl = 0 ∧ r = some (.int (nI 0)) ∧ σ2 = mdl K M (va_up sc 0 (nI 1)) ar σ0) ∨ (pl ≠ 0 ∧ r = some (.int (nI (tpB (ar 9) (ar 4 0 - ar 4 1) pl))) ∧ σ2 = mdl K M (va_up sc 0 (nI 0)) ar σ0))) := by
  obtain ⟨hw, hh, hw1, hw2, hh1, hh2⟩ := id hB
  have hn : w * h ≤ 49 := Nat.mul_le_mul hw2 hh2
  have hn1 : 16 ≤ w * h := Nat.mul_le_mul hw1 hh1
  refine g_intro [some (.ref M), none, none, none, none, none, none] (fun Γ hC => ?_) (by simp [g_en, lv_args, Value.category])
  refine g_aload_n (n := 1) hC rfl dX8_turningPoint_0 ?_
  refine g_aload_n (n := 2) hC rfl dX8_turningPoint_1 ?_
  refine m_get (v := .ref (M + 2)) (n := 5) hC hD gf_X8_20 dX8_turningPoint_2 rfl ?_
  refine g_sipush (n := 8) (v := (nI 153)) hC (by decide) dX8_turningPoint_5 ?_
  refine m_ld5 (x := (nI pl)) (n := 9) hC hD 153 dX8_turningPoint_8 (rfl) (by omega) (hpl) ?_
  refine g_if_neN (n := 12) (tgt := 16) hC (by omega) dX8_turningPoint_9 (fun h9 => ?_) (fun h9 => ?_)
  ·
    refine g_iconst (n := 17) (v := (nI 0)) hC (by decide) dX8_turningPoint_16 ?_
    refine m_put0 (n := 20) hC hD gp_X8_73 dX8_turningPoint_17 ?_
    refine g_iconst (n := 21) (v := (nI 0)) hC (by decide) dX8_turningPoint_20 ?_
    refine g_istore_n (n := 22) (ll1 := [some (.ref M), some (.int (nI 0)), none, none, none, none, none]) hC dX8_turningPoint_21 rfl ?_
    refine g_iconst (n := 23) (v := (-1)) hC (by decide) dX8_turningPoint_22 ?_
    refine g_istore_n (n := 24) (ll1 := [some (.ref M), some (.int (nI 0)), some (.int (-1)), none, none, none, none]) hC dX8_turningPoint_23 rfl ?_
    refine g_aload_n (n := 25) hC rfl dX8_turningPoint_24 ?_
    refine m_get (v := .ref (M + 1)) (n := 28) hC hD gf_X8_16 dX8_turningPoint_25 rfl ?_
    refine g_iconst (n := 29) (v := (nI 0)) hC (by decide) dX8_turningPoint_28 ?_
    refine m_ld4 (x := ((ar 4) 0)) (n := 30) hC hD 0 dX8_turningPoint_29 (rfl) (by omega) (rfl) ?_
    refine g_aload_n (n := 31) hC rfl dX8_turningPoint_30 ?_
    refine m_get (v := .ref (M + 1)) (n := 34) hC hD gf_X8_16 dX8_turningPoint_31 rfl ?_
    refine g_iconst (n := 35) (v := (nI 1)) hC (by decide) dX8_turningPoint_34 ?_
    refine m_ld4 (x := ((ar 4) 1)) (n := 36) hC hD 1 dX8_turningPoint_35 (rfl) (by omega) (rfl) ?_
    refine g_isub (n := 37) hC dX8_turningPoint_36 ?_
    refine g_istore_n (n := 38) (ll1 := [some (.ref M), some (.int (nI 0)), some (.int (-1)), some (.int (((ar 4) 0) - ((ar 4) 1))), none, none, none]) hC dX8_turningPoint_37 rfl ?_
    refine g_iconst (n := 39) (v := (nI 0)) hC (by decide) dX8_turningPoint_38 ?_
    refine g_istore (n := 41) (ll1 := [some (.ref M), some (.int (nI 0)), some (.int (-1)), some (.int (((ar 4) 0) - ((ar 4) 1))), some (.int (nI 0)), none, none]) hC dX8_turningPoint_39 rfl ?_
    have lp41 : ∀ (n9 : Nat) (c : Nat) (hc : c ≤ pl) (y1 : Int32) (ey1 : y1 = (nI (tpB (ar 9) (ar 4 0 - ar 4 1) c))) (y2 : Int32) (ey2 : y2 = (tpM (ar 9) (ar 4 0 - ar 4 1) c)) (y3 : Int32) (ey3 : y3 = (tpW (ar 9) (ar 4 0 - ar 4 1) c)) (y4 : Int32) (ey4 : y4 = (nI c)) (hm9 : pl - c < n9), G K Γ (z, 0, 0, L) (mdl K M (va_up sc 0 (nI 0)) ar σ0) 41 [some (.ref M), some (.int y1), some (.int y2), some (.int y3), some (.int y4), none, none] [] := by
      intro n9
      induction n9 with
      | zero =>
        intro c hc y1 ey1 y2 ey2 y3 ey3 y4 ey4 hm9
        exact absurd hm9 (Nat.not_lt_zero _)
      | succ n9 ih41 =>
        intro c hc y1 ey1 y2 ey2 y3 ey3 y4 ey4 hm9
        subst ey1
        subst ey2
        subst ey3
        subst ey4
        refine g_iload (n := 43) hC rfl dX8_turningPoint_41 ?_
        refine g_aload_n (n := 44) hC rfl dX8_turningPoint_43 ?_
        refine m_get (v := .ref (M + 2)) (n := 47) hC hD gf_X8_20 dX8_turningPoint_44 rfl ?_
        refine g_sipush (n := 50) (v := (nI 153)) hC (by decide) dX8_turningPoint_47 ?_
        refine m_ld5 (x := (nI pl)) (n := 51) hC hD 153 dX8_turningPoint_50 (rfl) (by omega) (hpl) ?_
        refine g_icmp_geN (n := 54) (tgt := 122) hC (by omega) (by omega) dX8_turningPoint_51 (fun h51 => ?_) (fun h51 => ?_)
        ·
          refine g_iload_n (n := 123) hC rfl dX8_turningPoint_122 ?_
          exact g_iret hC dX8_turningPoint_123 (⟨rfl, rfl, (Or.inr ⟨h9, by rw [show c = pl by omega], rfl⟩)⟩)
        ·
          refine g_aload_n (n := 55) hC rfl dX8_turningPoint_54 ?_
          refine m_get (v := .ref (M + 6)) (n := 58) hC hD gf_X8_32 dX8_turningPoint_55 rfl ?_
          refine g_bipush (n := 60) (v := (nI 7)) hC (by decide) dX8_turningPoint_58 ?_
          refine g_iload (n := 62) hC rfl dX8_turningPoint_60 ?_
          refine g_imulN (n := 63) hC dX8_turningPoint_62 ?_
          refine g_iconst (n := 64) (v := (nI 5)) hC (by decide) dX8_turningPoint_63 ?_
          refine g_iaddN (n := 65) hC dX8_turningPoint_64 ?_
          refine m_ld9 (x := ((ar 9) ((7 * c) + 5))) (n := 66) hC hD ((7 * c) + 5) dX8_turningPoint_65 (rfl) (by omega) (rfl) ?_
          refine g_aload_n (n := 67) hC rfl dX8_turningPoint_66 ?_
          refine m_get (v := .ref (M + 6)) (n := 70) hC hD gf_X8_32 dX8_turningPoint_67 rfl ?_
          refine g_bipush (n := 72) (v := (nI 7)) hC (by decide) dX8_turningPoint_70 ?_
          refine g_iload (n := 74) hC rfl dX8_turningPoint_72 ?_
          refine g_imulN (n := 75) hC dX8_turningPoint_74 ?_
          refine g_bipush (n := 77) (v := (nI 6)) hC (by decide) dX8_turningPoint_75 ?_
          refine g_iaddN (n := 78) hC dX8_turningPoint_77 ?_
          refine m_ld9 (x := ((ar 9) ((7 * c) + 6))) (n := 79) hC hD ((7 * c) + 6) dX8_turningPoint_78 (rfl) (by omega) (rfl) ?_
          refine g_isub (n := 80) hC dX8_turningPoint_79 ?_
          refine g_istore (n := 82) (ll1 := [some (.ref M), some (.int (nI (tpB (ar 9) (ar 4 0 - ar 4 1) c))), some (.int (tpM (ar 9) (ar 4 0 - ar 4 1) c)), some (.int (tpW (ar 9) (ar 4 0 - ar 4 1) c)), some (.int (nI c)), some (.int (((ar 9) ((7 * c) + 5)) - ((ar 9) ((7 * c) + 6)))), none]) hC dX8_turningPoint_80 rfl ?_
          have lp99 : ∀ (ys0 : Int32) (eys0 : ys0 = (tpD (ar 9) (ar 4 0 - ar 4 1) c)), G K Γ (z, 0, 0, L) (mdl K M (va_up sc 0 (nI 0)) ar σ0) 99 [some (.ref M), some (.int (nI (tpB (ar 9) (ar 4 0 - ar 4 1) c))), some (.int (tpM (ar 9) (ar 4 0 - ar 4 1) c)), some (.int (tpW (ar 9) (ar 4 0 - ar 4 1) c)), some (.int (nI c)), some (.int (tpI (ar 9) c)), none] [.int ys0] := by
            intro ys0 eys0
            subst eys0
            refine g_istore (n := 101) (ll1 := [some (.ref M), some (.int (nI (tpB (ar 9) (ar 4 0 - ar 4 1) c))), some (.int (tpM (ar 9) (ar 4 0 - ar 4 1) c)), some (.int (tpW (ar 9) (ar 4 0 - ar 4 1) c)), some (.int (nI c)), some (.int (tpI (ar 9) c)), some (.int (tpD (ar 9) (ar 4 0 - ar 4 1) c))]) hC dX8_turningPoint_99 rfl ?_
            refine g_iload (n := 103) hC rfl dX8_turningPoint_101 ?_
            refine g_iload_n (n := 104) hC rfl dX8_turningPoint_103 ?_
            refine g_icmp_le (n := 107) (tgt := 113) hC dX8_turningPoint_104 (fun h104 => ?_) (fun h104 => ?_)
            ·
              refine g_iload (n := 115) hC rfl dX8_turningPoint_113 ?_
              refine g_istore_n (n := 116) (ll1 := [some (.ref M), some (.int (nI (tpB (ar 9) (ar 4 0 - ar 4 1) c))), some (.int (tpM (ar 9) (ar 4 0 - ar 4 1) c)), some (.int (tpI (ar 9) c)), some (.int (nI c)), some (.int (tpI (ar 9) c)), some (.int (tpD (ar 9) (ar 4 0 - ar 4 1) c))]) hC dX8_turningPoint_115 rfl ?_
              refine g_iinc (n := 119) (ll1 := [some (.ref M), some (.int (nI (tpB (ar 9) (ar 4 0 - ar 4 1) c))), some (.int (tpM (ar 9) (ar 4 0 - ar 4 1) c)), some (.int (tpI (ar 9) c)), some (.int (nI (c + 1))), some (.int (tpI (ar 9) c)), some (.int (tpD (ar 9) (ar 4 0 - ar 4 1) c))]) hC dX8_turningPoint_116 rfl (nI_inc _) rfl ?_
              refine g_goto (n := 41) hC dX8_turningPoint_119 ?_
              exact G.le (ih41 (c + 1) (by omega) _ (by first | rfl | (rw [tpB, if_neg (Int32.not_lt.mpr h104)])) _ (by first | rfl | (rw [tpM, if_neg (Int32.not_lt.mpr h104)])) _ (by rfl) _ (by rfl) (by omega)) (And.intro rfl (And.intro rfl (And.intro rfl (And.intro rfl (And.intro rfl (trivial))))))
            ·
              refine g_iload (n := 109) hC rfl dX8_turningPoint_107 ?_
              refine g_istore_n (n := 110) (ll1 := [some (.ref M), some (.int (nI c)), some (.int (tpM (ar 9) (ar 4 0 - ar 4 1) c)), some (.int (tpW (ar 9) (ar 4 0 - ar 4 1) c)), some (.int (nI c)), some (.int (tpI (ar 9) c)), some (.int (tpD (ar 9) (ar 4 0 - ar 4 1) c))]) hC dX8_turningPoint_109 rfl ?_
              refine g_iload (n := 112) hC rfl dX8_turningPoint_110 ?_
              refine g_istore_n (n := 113) (ll1 := [some (.ref M), some (.int (nI c)), some (.int (tpD (ar 9) (ar 4 0 - ar 4 1) c)), some (.int (tpW (ar 9) (ar 4 0 - ar 4 1) c)), some (.int (nI c)), some (.int (tpI (ar 9) c)), some (.int (tpD (ar 9) (ar 4 0 - ar 4 1) c))]) hC dX8_turningPoint_112 rfl ?_
              refine g_iload (n := 115) hC rfl dX8_turningPoint_113 ?_
              refine g_istore_n (n := 116) (ll1 := [some (.ref M), some (.int (nI c)), some (.int (tpD (ar 9) (ar 4 0 - ar 4 1) c)), some (.int (tpI (ar 9) c)), some (.int (nI c)), some (.int (tpI (ar 9) c)), some (.int (tpD (ar 9) (ar 4 0 - ar 4 1) c))]) hC dX8_turningPoint_115 rfl ?_
              refine g_iinc (n := 119) (ll1 := [some (.ref M), some (.int (nI c)), some (.int (tpD (ar 9) (ar 4 0 - ar 4 1) c)), some (.int (tpI (ar 9) c)), some (.int (nI (c + 1))), some (.int (tpI (ar 9) c)), some (.int (tpD (ar 9) (ar 4 0 - ar 4 1) c))]) hC dX8_turningPoint_116 rfl (nI_inc _) rfl ?_
              refine g_goto (n := 41) hC dX8_turningPoint_119 ?_
              exact G.le (ih41 (c + 1) (by omega) _ (by first | rfl | (rw [tpB, if_pos (Int32.not_le.mp h104)])) _ (by first | rfl | (rw [tpM, if_pos (Int32.not_le.mp h104)])) _ (by rfl) _ (by rfl) (by omega)) (And.intro rfl (And.intro rfl (And.intro rfl (And.intro rfl (And.intro rfl (trivial))))))
          refine g_iload (n := 84) hC rfl dX8_turningPoint_82 ?_
          refine g_iload_n (n := 85) hC rfl dX8_turningPoint_84 ?_
          refine g_icmp_le (n := 88) (tgt := 95) hC dX8_turningPoint_85 (fun h85 => ?_) (fun h85 => ?_)
          ·
            refine g_iload_n (n := 96) hC rfl dX8_turningPoint_95 ?_
            refine g_iload (n := 98) hC rfl dX8_turningPoint_96 ?_
            refine g_isub (n := 99) hC dX8_turningPoint_98 ?_
            exact lp99  _ (tpD_f h85)
          ·
            refine g_iload (n := 90) hC rfl dX8_turningPoint_88 ?_
            refine g_iload_n (n := 91) hC rfl dX8_turningPoint_90 ?_
            refine g_isub (n := 92) hC dX8_turningPoint_91 ?_
            refine g_goto (n := 99) hC dX8_turningPoint_92 ?_
            exact lp99  _ (tpD_t h85)
    exact lp41 _ 0 (by omega) _ (by first | rfl | (rw [tpB, if_pos (Int32.not_le.mp h104)])) _ (by first | rfl | (rw [tpM, if_pos (Int32.not_le.mp h104)])) _ (by rfl) _ (by rfl) (Nat.lt_succ_self _)
  ·
    refine g_iconst (n := 13) (v := (nI 1)) hC (by decide) dX8_turningPoint_12 ?_
    refine g_goto (n := 17) hC dX8_turningPoint_13 ?_
    refine m_put0 (n := 20) hC hD gp_X8_73 dX8_turningPoint_17 ?_
    refine g_iconst (n := 21) (v := (nI 0)) hC (by decide) dX8_turningPoint_20 ?_
    refine g_istore_n (n := 22) (ll1 := [some (.ref M), some (.int (nI 0)), none, none, none, none, none]) hC dX8_turningPoint_21 rfl ?_
    refine g_iconst (n := 23) (v := (-1)) hC (by decide) dX8_turningPoint_22 ?_
    refine g_istore_n (n := 24) (ll1 := [some (.ref M), some (.int (nI 0)), some (.int (-1)), none, none, none, none]) hC dX8_turningPoint_23 rfl ?_
    refine g_aload_n (n := 25) hC rfl dX8_turningPoint_24 ?_
    refine m_get (v := .ref (M + 1)) (n := 28) hC hD gf_X8_16 dX8_turningPoint_25 rfl ?_
    refine g_iconst (n := 29) (v := (nI 0)) hC (by decide) dX8_turningPoint_28 ?_
    refine m_ld4 (x := ((ar 4) 0)) (n := 30) hC hD 0 dX8_turningPoint_29 (rfl) (by omega) (rfl) ?_
    refine g_aload_n (n := 31) hC rfl dX8_turningPoint_30 ?_
    refine m_get (v := .ref (M + 1)) (n := 34) hC hD gf_X8_16 dX8_turningPoint_31 rfl ?_
    refine g_iconst (n := 35) (v := (nI 1)) hC (by decide) dX8_turningPoint_34 ?_
    refine m_ld4 (x := ((ar 4) 1)) (n := 36) hC hD 1 dX8_turningPoint_35 (rfl) (by omega) (rfl) ?_
    refine g_isub (n := 37) hC dX8_turningPoint_36 ?_
    refine g_istore_n (n := 38) (ll1 := [some (.ref M), some (.int (nI 0)), some (.int (-1)), some (.int (((ar 4) 0) - ((ar 4) 1))), none, none, none]) hC dX8_turningPoint_37 rfl ?_
    refine g_iconst (n := 39) (v := (nI 0)) hC (by decide) dX8_turningPoint_38 ?_
    refine g_istore (n := 41) (ll1 := [some (.ref M), some (.int (nI 0)), some (.int (-1)), some (.int (((ar 4) 0) - ((ar 4) 1))), some (.int (nI 0)), none, none]) hC dX8_turningPoint_39 rfl ?_
    have lp41 : ∀ (n9 : Nat) (c : Nat) (hc : c ≤ pl) (y1 : Int32) (ey1 : y1 = (nI (tpB (ar 9) (ar 4 0 - ar 4 1) c))) (y2 : Int32) (ey2 : y2 = (tpM (ar 9) (ar 4 0 - ar 4 1) c)) (y3 : Int32) (ey3 : y3 = (tpW (ar 9) (ar 4 0 - ar 4 1) c)) (y4 : Int32) (ey4 : y4 = (nI c)) (hm9 : pl - c < n9), G K Γ (z, 0, 0, L) (mdl K M (va_up sc 0 (nI 1)) ar σ0) 41 [some (.ref M), some (.int y1), some (.int y2), some (.int y3), some (.int y4), none, none] [] := by
      intro n9
      induction n9 with
      | zero =>
        intro c hc y1 ey1 y2 ey2 y3 ey3 y4 ey4 hm9
        exact absurd hm9 (Nat.not_lt_zero _)
      | succ n9 ih41 =>
        intro c hc y1 ey1 y2 ey2 y3 ey3 y4 ey4 hm9
        subst ey1
        subst ey2
        subst ey3
        subst ey4
        refine g_iload (n := 43) hC rfl dX8_turningPoint_41 ?_
        refine g_aload_n (n := 44) hC rfl dX8_turningPoint_43 ?_
        refine m_get (v := .ref (M + 2)) (n := 47) hC hD gf_X8_20 dX8_turningPoint_44 rfl ?_
        refine g_sipush (n := 50) (v := (nI 153)) hC (by decide) dX8_turningPoint_47 ?_
        refine m_ld5 (x := (nI pl)) (n := 51) hC hD 153 dX8_turningPoint_50 (rfl) (by omega) (hpl) ?_
        refine g_icmp_geN (n := 54) (tgt := 122) hC (by omega) (by omega) dX8_turningPoint_51 (fun h51 => ?_) (fun h51 => ?_)
        ·
          refine g_iload_n (n := 123) hC rfl dX8_turningPoint_122 ?_
          exact g_iret hC dX8_turningPoint_123 (⟨rfl, rfl, (Or.inl ⟨h9, by rw [show c = 0 by omega]; rfl, rfl⟩)⟩)
        ·
          refine g_aload_n (n := 55) hC rfl dX8_turningPoint_54 ?_
          refine m_get (v := .ref (M + 6)) (n := 58) hC hD gf_X8_32 dX8_turningPoint_55 rfl ?_
          refine g_bipush (n := 60) (v := (nI 7)) hC (by decide) dX8_turningPoint_58 ?_
          refine g_iload (n := 62) hC rfl dX8_turningPoint_60 ?_
          refine g_imulN (n := 63) hC dX8_turningPoint_62 ?_
          refine g_iconst (n := 64) (v := (nI 5)) hC (by decide) dX8_turningPoint_63 ?_
          refine g_iaddN (n := 65) hC dX8_turningPoint_64 ?_
          refine m_ld9 (x := ((ar 9) ((7 * c) + 5))) (n := 66) hC hD ((7 * c) + 5) dX8_turningPoint_65 (rfl) (by omega) (rfl) ?_
          refine g_aload_n (n := 67) hC rfl dX8_turningPoint_66 ?_
          refine m_get (v := .ref (M + 6)) (n := 70) hC hD gf_X8_32 dX8_turningPoint_67 rfl ?_
          refine g_bipush (n := 72) (v := (nI 7)) hC (by decide) dX8_turningPoint_70 ?_
          refine g_iload (n := 74) hC rfl dX8_turningPoint_72 ?_
          refine g_imulN (n := 75) hC dX8_turningPoint_74 ?_
          refine g_bipush (n := 77) (v := (nI 6)) hC (by decide) dX8_turningPoint_75 ?_
          refine g_iaddN (n := 78) hC dX8_turningPoint_77 ?_
          refine m_ld9 (x := ((ar 9) ((7 * c) + 6))) (n := 79) hC hD ((7 * c) + 6) dX8_turningPoint_78 (rfl) (by omega) (rfl) ?_
          refine g_isub (n := 80) hC dX8_turningPoint_79 ?_
          refine g_istore (n := 82) (ll1 := [some (.ref M), some (.int (nI (tpB (ar 9) (ar 4 0 - ar 4 1) c))), some (.int (tpM (ar 9) (ar 4 0 - ar 4 1) c)), some (.int (tpW (ar 9) (ar 4 0 - ar 4 1) c)), some (.int (nI c)), some (.int (((ar 9) ((7 * c) + 5)) - ((ar 9) ((7 * c) + 6)))), none]) hC dX8_turningPoint_80 rfl ?_
          have lp99 : ∀ (ys0 : Int32) (eys0 : ys0 = (tpD (ar 9) (ar 4 0 - ar 4 1) c)), G K Γ (z, 0, 0, L) (mdl K M (va_up sc 0 (nI 1)) ar σ0) 99 [some (.ref M), some (.int (nI (tpB (ar 9) (ar 4 0 - ar 4 1) c))), some (.int (tpM (ar 9) (ar 4 0 - ar 4 1) c)), some (.int (tpW (ar 9) (ar 4 0 - ar 4 1) c)), some (.int (nI c)), some (.int (tpI (ar 9) c)), none] [.int ys0] := by
            intro ys0 eys0
            subst eys0
            refine g_istore (n := 101) (ll1 := [some (.ref M), some (.int (nI (tpB (ar 9) (ar 4 0 - ar 4 1) c))), some (.int (tpM (ar 9) (ar 4 0 - ar 4 1) c)), some (.int (tpW (ar 9) (ar 4 0 - ar 4 1) c)), some (.int (nI c)), some (.int (tpI (ar 9) c)), some (.int (tpD (ar 9) (ar 4 0 - ar 4 1) c))]) hC dX8_turningPoint_99 rfl ?_
            refine g_iload (n := 103) hC rfl dX8_turningPoint_101 ?_
            refine g_iload_n (n := 104) hC rfl dX8_turningPoint_103 ?_
            refine g_icmp_le (n := 107) (tgt := 113) hC dX8_turningPoint_104 (fun h104 => ?_) (fun h104 => ?_)
            ·
              refine g_iload (n := 115) hC rfl dX8_turningPoint_113 ?_
              refine g_istore_n (n := 116) (ll1 := [some (.ref M), some (.int (nI (tpB (ar 9) (ar 4 0 - ar 4 1) c))), some (.int (tpM (ar 9) (ar 4 0 - ar 4 1) c)), some (.int (tpI (ar 9) c)), some (.int (nI c)), some (.int (tpI (ar 9) c)), some (.int (tpD (ar 9) (ar 4 0 - ar 4 1) c))]) hC dX8_turningPoint_115 rfl ?_
              refine g_iinc (n := 119) (ll1 := [some (.ref M), some (.int (nI (tpB (ar 9) (ar 4 0 - ar 4 1) c))), some (.int (tpM (ar 9) (ar 4 0 - ar 4 1) c)), some (.int (tpI (ar 9) c)), some (.int (nI (c + 1))), some (.int (tpI (ar 9) c)), some (.int (tpD (ar 9) (ar 4 0 - ar 4 1) c))]) hC dX8_turningPoint_116 rfl (nI_inc _) rfl ?_
              refine g_goto (n := 41) hC dX8_turningPoint_119 ?_
              exact G.le (ih41 (c + 1) (by omega) _ (by first | rfl | (rw [tpB, if_neg (Int32.not_lt.mpr h104)])) _ (by first | rfl | (rw [tpM, if_neg (Int32.not_lt.mpr h104)])) _ (by rfl) _ (by rfl) (by omega)) (And.intro rfl (And.intro rfl (And.intro rfl (And.intro rfl (And.intro rfl (trivial))))))
            ·
              refine g_iload (n := 109) hC rfl dX8_turningPoint_107 ?_
              refine g_istore_n (n := 110) (ll1 := [some (.ref M), some (.int (nI c)), some (.int (tpM (ar 9) (ar 4 0 - ar 4 1) c)), some (.int (tpW (ar 9) (ar 4 0 - ar 4 1) c)), some (.int (nI c)), some (.int (tpI (ar 9) c)), some (.int (tpD (ar 9) (ar 4 0 - ar 4 1) c))]) hC dX8_turningPoint_109 rfl ?_
              refine g_iload (n := 112) hC rfl dX8_turningPoint_110 ?_
              refine g_istore_n (n := 113) (ll1 := [some (.ref M), some (.int (nI c)), some (.int (tpD (ar 9) (ar 4 0 - ar 4 1) c)), some (.int (tpW (ar 9) (ar 4 0 - ar 4 1) c)), some (.int (nI c)), some (.int (tpI (ar 9) c)), some (.int (tpD (ar 9) (ar 4 0 - ar 4 1) c))]) hC dX8_turningPoint_112 rfl ?_
              refine g_iload (n := 115) hC rfl dX8_turningPoint_113 ?_
              refine g_istore_n (n := 116) (ll1 := [some (.ref M), some (.int (nI c)), some (.int (tpD (ar 9) (ar 4 0 - ar 4 1) c)), some (.int (tpI (ar 9) c)), some (.int (nI c)), some (.int (tpI (ar 9) c)), some (.int (tpD (ar 9) (ar 4 0 - ar 4 1) c))]) hC dX8_turningPoint_115 rfl ?_
              refine g_iinc (n := 119) (ll1 := [some (.ref M), some (.int (nI c)), some (.int (tpD (ar 9) (ar 4 0 - ar 4 1) c)), some (.int (tpI (ar 9) c)), some (.int (nI (c + 1))), some (.int (tpI (ar 9) c)), some (.int (tpD (ar 9) (ar 4 0 - ar 4 1) c))]) hC dX8_turningPoint_116 rfl (nI_inc _) rfl ?_
              refine g_goto (n := 41) hC dX8_turningPoint_119 ?_
              exact G.le (ih41 (c + 1) (by omega) _ (by first | rfl | (rw [tpB, if_pos (Int32.not_le.mp h104)])) _ (by first | rfl | (rw [tpM, if_pos (Int32.not_le.mp h104)])) _ (by rfl) _ (by rfl) (by omega)) (And.intro rfl (And.intro rfl (And.intro rfl (And.intro rfl (And.intro rfl (trivial))))))
          refine g_iload (n := 84) hC rfl dX8_turningPoint_82 ?_
          refine g_iload_n (n := 85) hC rfl dX8_turningPoint_84 ?_
          refine g_icmp_le (n := 88) (tgt := 95) hC dX8_turningPoint_85 (fun h85 => ?_) (fun h85 => ?_)
          ·
            refine g_iload_n (n := 96) hC rfl dX8_turningPoint_95 ?_
            refine g_iload (n := 98) hC rfl dX8_turningPoint_96 ?_
            refine g_isub (n := 99) hC dX8_turningPoint_98 ?_
            exact lp99  _ (tpD_f h85)
          ·
            refine g_iload (n := 90) hC rfl dX8_turningPoint_88 ?_
            refine g_iload_n (n := 91) hC rfl dX8_turningPoint_90 ?_
            refine g_isub (n := 92) hC dX8_turningPoint_91 ?_
            refine g_goto (n := 99) hC dX8_turningPoint_92 ?_
            exact lp99  _ (tpD_t h85)
    exact lp41 _ 0 (by omega) _ (by first | rfl | (rw [tpB, if_pos (Int32.not_le.mp h104)])) _ (by first | rfl | (rw [tpM, if_pos (Int32.not_le.mp h104)])) _ (by rfl) _ (by rfl) (Nat.lt_succ_self _)

set_option maxRecDepth 20000 in
theorem M_report (K : GK) {M : Nat} {sc : Nat → Int32} {ar : Nat → Nat → Int32} {σ0 : GS} {L : List Nat} {z : Nat} (hD : mdom M L) {w h : Nat} (hB : mB sc w h) {p x : Int32} {lv : Nat} (hlv : sc 27 = nI lv) (hlv4 : lv ≤ 4) : gM K yX8_report cX8_report 3 (some .int) 1 0 0 [.ref M, .int p, .int x] z L (mdl K M sc ar σ0) (fun r z1 L1 σ2 => z1 = z ∧ L1 = L ∧ ((¬ inN lv p ∧ r = some (.int (nI 0)) ∧ σ2 = mdl K M (va_up sc 0 (nI 1)) ar σ0) ∨ (inN lv p ∧ ¬ inR 0 1 x ∧ r = some (.int (nI 0)) ∧ σ2 = mdl K M (va_up sc 0 (nI 2)) ar σ0) ∨ (∃ p0 x0, p0 < lv ∧ x0 ≤ 1 ∧ p = nI p0 ∧ x = nI x0 ∧ r = some (.int (if x0 = 0 then ar 25 p0 else ar 26 p0)) ∧ σ2 = mdl K M (va_up sc 0 (nI 0)) ar σ0))) := by
  obtain ⟨hw, hh, hw1, hw2, hh1, hh2⟩ := id hB
  have hn : w * h ≤ 49 := Nat.mul_le_mul hw2 hh2
  have hn1 : 16 ≤ w * h := Nat.mul_le_mul hw1 hh1
  refine g_intro [some (.ref M), some (.int p), some (.int x)] (fun Γ hC => ?_) (by simp [g_en, lv_args, Value.category])
  refine g_aload_n (n := 1) hC rfl dX8_report_0 ?_
  refine g_iload_n (n := 2) hC rfl dX8_report_1 ?_
  refine g_iconst (n := 3) (v := (nI 0)) hC (by decide) dX8_report_2 ?_
  refine g_aload_n (n := 4) hC rfl dX8_report_3 ?_
  refine m_get (v := .int (nI lv)) (n := 7) hC hD gf_X8_154 dX8_report_4 (congrArg (fun x => some (Value.int x)) (hlv)) ?_
  refine g_iconst (n := 8) (v := (nI 1)) hC (by decide) dX8_report_7 ?_
  refine g_isub (n := 9) hC dX8_report_8 ?_
  refine g_cS (n := 12) hC gs_X8_80 (M_isInP K hD lv (by omega)) dX8_report_9 ?_
  refine g_ifb_ne (n := 15) (tgt := 19) hC dX8_report_12 (fun h12 => ?_) (fun h12 => ?_)
  ·
    obtain ⟨p0, hp1, rfl⟩ := h12
    refine g_iload_n (n := 20) hC rfl dX8_report_19 ?_
    refine g_iconst (n := 21) (v := (nI 0)) hC (by decide) dX8_report_20 ?_
    refine g_iconst (n := 22) (v := (nI 1)) hC (by decide) dX8_report_21 ?_
    refine g_cS (n := 25) hC gs_X8_80 (M_isInN K hD 0 1 (by omega) (by omega)) dX8_report_22 ?_
    refine g_ifb_ne (n := 28) (tgt := 32) hC dX8_report_25 (fun h25 => ?_) (fun h25 => ?_)
    ·
      obtain ⟨x0, hx0, hx1, rfl⟩ := h25
      refine g_iconst (n := 33) (v := (nI 0)) hC (by decide) dX8_report_32 ?_
      refine m_put0 (n := 36) hC hD gp_X8_73 dX8_report_33 ?_
      refine g_aload_n (n := 37) hC rfl dX8_report_36 ?_
      refine m_get (v := .int (nI 0)) (n := 40) hC hD gf_X8_73 dX8_report_37 rfl ?_
      refine g_if_le (n := 43) (tgt := 47) hC dX8_report_40 (fun _ => ?_) (fun h9 => absurd h9 (by decide))
      refine g_iload_n (n := 48) hC rfl dX8_report_47 ?_
      refine g_if_neN (n := 51) (tgt := 60) hC (by omega) dX8_report_48 (fun h48 => ?_) (fun h48 => ?_)
      ·
        refine g_aload_n (n := 61) hC rfl dX8_report_60 ?_
        refine m_get (v := .ref (M + 16)) (n := 64) hC hD gf_X8_62 dX8_report_61 rfl ?_
        refine g_iload_n (n := 65) hC rfl dX8_report_64 ?_
        refine m_ld26 (x := ((ar 26) p0)) (n := 66) hC hD p0 dX8_report_65 (rfl) (by omega) (rfl) ?_
        exact g_iret hC dX8_report_66 (⟨rfl, rfl, (Or.inr (Or.inr ⟨p0, x0, hp1, hx1, rfl, rfl, by rw [if_neg h48], rfl⟩))⟩)
      ·
        refine g_aload_n (n := 52) hC rfl dX8_report_51 ?_
        refine m_get (v := .ref (M + 15)) (n := 55) hC hD gf_X8_59 dX8_report_52 rfl ?_
        refine g_iload_n (n := 56) hC rfl dX8_report_55 ?_
        refine m_ld25 (x := ((ar 25) p0)) (n := 57) hC hD p0 dX8_report_56 (rfl) (by omega) (rfl) ?_
        refine g_goto (n := 66) hC dX8_report_57 ?_
        exact g_iret hC dX8_report_66 (⟨rfl, rfl, (Or.inr (Or.inr ⟨p0, x0, hp1, hx1, rfl, rfl, by rw [if_pos h48], rfl⟩))⟩)
    ·
      refine g_iconst (n := 29) (v := (nI 2)) hC (by decide) dX8_report_28 ?_
      refine g_goto (n := 33) hC dX8_report_29 ?_
      refine m_put0 (n := 36) hC hD gp_X8_73 dX8_report_33 ?_
      refine g_aload_n (n := 37) hC rfl dX8_report_36 ?_
      refine m_get (v := .int (nI 2)) (n := 40) hC hD gf_X8_73 dX8_report_37 rfl ?_
      refine g_if_le (n := 43) (tgt := 47) hC dX8_report_40 (fun h9 => absurd h9 (by decide)) (fun _ => ?_)
      refine g_iconst (n := 44) (v := (nI 0)) hC (by decide) dX8_report_43 ?_
      refine g_goto (n := 66) hC dX8_report_44 ?_
      exact g_iret hC dX8_report_66 (⟨rfl, rfl, (Or.inr (Or.inl ⟨⟨p0, hp1, rfl⟩, h25, rfl, rfl⟩))⟩)
  ·
    refine g_iconst (n := 16) (v := (nI 1)) hC (by decide) dX8_report_15 ?_
    refine g_goto (n := 33) hC dX8_report_16 ?_
    refine m_put0 (n := 36) hC hD gp_X8_73 dX8_report_33 ?_
    refine g_aload_n (n := 37) hC rfl dX8_report_36 ?_
    refine m_get (v := .int (nI 1)) (n := 40) hC hD gf_X8_73 dX8_report_37 rfl ?_
    refine g_if_le (n := 43) (tgt := 47) hC dX8_report_40 (fun h9 => absurd h9 (by decide)) (fun _ => ?_)
    refine g_iconst (n := 44) (v := (nI 0)) hC (by decide) dX8_report_43 ?_
    refine g_goto (n := 66) hC dX8_report_44 ?_
    exact g_iret hC dX8_report_66 (⟨rfl, rfl, (Or.inl ⟨h12, rfl, rfl⟩)⟩)

set_option maxRecDepth 20000 in
theorem M_feed (K : GK) {M : Nat} {sc : Nat → Int32} {ar : Nat → Nat → Int32} {σ0 : GS} {L : List Nat} {z : Nat} (hD : mdom M L) {w h : Nat} (hB : mB sc w h) {tn cn : Nat} (htn : sc 29 = nI tn) (htn80 : tn ≤ 80) (hcn : cn < 65536) : gM K yX8_feed cX8_feed 2 (some .int) 0 0 0 [.ref M, .int (nI cn)] z L (mdl K M sc ar σ0) (fun r z1 L1 σ2 => z1 = z ∧ L1 = L ∧ ((tn = 80 ∧ r = some (.int (nI 0)) ∧ σ2 = mdl K M (va_up sc 0 (nI 1)) ar σ0) ∨ (tn ≠ 80 ∧ r = some (.int (nI (tn + 1))) ∧ σ2 = mdl K M (va_up (va_up sc 0 (nI 0)) 29 (nI (tn + 1))) (va_up ar 28 (va_up (ar 28) tn (nI cn))) σ0))) := by
  obtain ⟨hw, hh, hw1, hw2, hh1, hh2⟩ := id hB
  have hn : w * h ≤ 49 := Nat.mul_le_mul hw2 hh2
  have hn1 : 16 ≤ w * h := Nat.mul_le_mul hw1 hh1
  refine g_intro [some (.ref M), some (.int (nI cn))] (fun Γ hC => ?_) (by simp [g_en, lv_args, Value.category])
  refine g_aload_n (n := 1) hC rfl dX8_feed_0 ?_
  refine g_aload_n (n := 2) hC rfl dX8_feed_1 ?_
  refine m_get (v := .int (nI tn)) (n := 5) hC hD gf_X8_220 dX8_feed_2 (congrArg (fun x => some (Value.int x)) (htn)) ?_
  refine g_bipush (n := 7) (v := (nI 80)) hC (by decide) dX8_feed_5 ?_
  refine g_icmp_neN (n := 10) (tgt := 14) hC (by omega) (by omega) dX8_feed_7 (fun h7 => ?_) (fun h7 => ?_)
  ·
    refine g_iconst (n := 15) (v := (nI 0)) hC (by decide) dX8_feed_14 ?_
    refine m_put0 (n := 18) hC hD gp_X8_73 dX8_feed_15 ?_
    refine g_aload_n (n := 19) hC rfl dX8_feed_18 ?_
    refine m_get (v := .int (nI 0)) (n := 22) hC hD gf_X8_73 dX8_feed_19 rfl ?_
    refine g_iconst (n := 23) (v := (nI 1)) hC (by decide) dX8_feed_22 ?_
    refine g_icmp_neN (n := 26) (tgt := 28) hC (by decide) (by decide) dX8_feed_23 (fun _ => ?_) (fun h9 => absurd h9 (by decide))
    refine g_aload_n (n := 29) hC rfl dX8_feed_28 ?_
    refine m_get (v := .ref (M + 17)) (n := 32) hC hD gf_X8_65 dX8_feed_29 rfl ?_
    refine g_aload_n (n := 33) hC rfl dX8_feed_32 ?_
    refine m_get (v := .int (nI tn)) (n := 36) hC hD gf_X8_220 dX8_feed_33 (congrArg (fun x => some (Value.int x)) (htn)) ?_
    refine g_iload_n (n := 37) hC rfl dX8_feed_36 ?_
    refine m_st28 (f := (ar 28)) (n := 38) hC hD tn ((pk_charN hcn).1) dX8_feed_37 (rfl) (by omega) rfl ?_
    refine g_aload_n (n := 39) hC rfl dX8_feed_38 ?_
    refine g_dup (n := 40) hC rfl dX8_feed_39 ?_
    refine m_get (v := .int (nI tn)) (n := 43) hC hD gf_X8_220 dX8_feed_40 (congrArg (fun x => some (Value.int x)) (htn)) ?_
    refine g_iconst (n := 44) (v := (nI 1)) hC (by decide) dX8_feed_43 ?_
    refine g_iaddN (n := 45) hC dX8_feed_44 ?_
    refine m_put29 (n := 48) hC hD gp_X8_220 dX8_feed_45 ?_
    refine g_aload_n (n := 49) hC rfl dX8_feed_48 ?_
    refine m_get (v := .int (nI (tn + 1))) (n := 52) hC hD gf_X8_220 dX8_feed_49 rfl ?_
    exact g_iret hC dX8_feed_52 (⟨rfl, rfl, (Or.inr ⟨h7, rfl, rfl⟩)⟩)
  ·
    refine g_iconst (n := 11) (v := (nI 1)) hC (by decide) dX8_feed_10 ?_
    refine g_goto (n := 15) hC dX8_feed_11 ?_
    refine m_put0 (n := 18) hC hD gp_X8_73 dX8_feed_15 ?_
    refine g_aload_n (n := 19) hC rfl dX8_feed_18 ?_
    refine m_get (v := .int (nI 1)) (n := 22) hC hD gf_X8_73 dX8_feed_19 rfl ?_
    refine g_iconst (n := 23) (v := (nI 1)) hC (by decide) dX8_feed_22 ?_
    refine g_icmp_neN (n := 26) (tgt := 28) hC (by decide) (by decide) dX8_feed_23 (fun h9 => absurd h9 (by decide)) (fun _ => ?_)
    refine g_iconst (n := 27) (v := (nI 0)) hC (by decide) dX8_feed_26 ?_
    exact g_iret hC dX8_feed_27 (⟨rfl, rfl, (Or.inl ⟨h7, rfl, rfl⟩)⟩)

theorem ifP_2 {p : Prop} (h : ifP p 2 3 = 2) : p := by
  by_cases q : p
  · exact q
  · rw [ifP_f q] at h; cases h
theorem ifP_3 {p : Prop} (h : 2 < ifP p 2 3) : ¬ p := fun q => by rw [ifP_t q] at h; omega
theorem ifP_le {p : Prop} : ifP p 2 3 ≤ 3 := by
  by_cases q : p
  · rw [ifP_t q]; omega
  · rw [ifP_f q]; omega

set_option maxRecDepth 20000 in
set_option maxHeartbeats 2000000 in
theorem M_stonesToEnclose (K : GK) {M : Nat} {sc : Nat → Int32} {ar : Nat → Nat → Int32} {σ0 : GS} {L : List Nat} {z : Nat} (hD : mdom M L) {w h : Nat} (hB : mB sc w h) {p c : Int32} : gM K yX8_stonesToEnclose cX8_stonesToEnclose 10 (some .int) 6 0 0 [.ref M, .int p, .int c] z L (mdl K M sc ar σ0) (fun r z1 L1 σ2 => z1 = z ∧ L1 = L ∧ ((¬ (inR 0 1 p ∧ inN (w * h) c) ∧ r = some (.int (nI 0)) ∧ σ2 = mdl K M (va_up sc 0 (nI 1)) ar σ0) ∨ (∃ p0 c0, p0 ≤ 1 ∧ c0 < w * h ∧ p = nI p0 ∧ c = nI c0 ∧ tb (outF (ar 5) (w * h) p0) c0 = false ∧ r = some (.int (nI 0)) ∧ σ2 = mdl K M (va_up sc 0 (nI 2)) ar σ0) ∨ (∃ p0 c0, p0 ≤ 1 ∧ c0 < w * h ∧ p = nI p0 ∧ c = nI c0 ∧ tb (outF (ar 5) (w * h) p0) c0 = true ∧ enC w h (outF (ar 5) (w * h) p0) c0 ∧ r = some (.int (nI 0)) ∧ σ2 = mdl K M (va_up sc 0 (nI 0)) ar σ0) ∨ (∃ p0 c0, p0 ≤ 1 ∧ c0 < w * h ∧ p = nI p0 ∧ c = nI c0 ∧ tb (outF (ar 5) (w * h) p0) c0 = true ∧ ¬ enC w h (outF (ar 5) (w * h) p0) c0 ∧ (∃ a, a < w * h ∧ s1C w h (outF (ar 5) (w * h) p0) (bitsF (fun i => decide (ar 5 i = nI 0)) (w * h) &&& (sl 1 c0 ^^^ (-1))) c0 a) ∧ r = some (.int (nI 1)) ∧ σ2 = mdl K M (va_up sc 0 (nI 0)) ar σ0) ∨ (∃ p0 c0, p0 ≤ 1 ∧ c0 < w * h ∧ p = nI p0 ∧ c = nI c0 ∧ tb (outF (ar 5) (w * h) p0) c0 = true ∧ ¬ enC w h (outF (ar 5) (w * h) p0) c0 ∧ ¬ (∃ a, a < w * h ∧ s1C w h (outF (ar 5) (w * h) p0) (bitsF (fun i => decide (ar 5 i = nI 0)) (w * h) &&& (sl 1 c0 ^^^ (-1))) c0 a) ∧ (∃ a b, a < w * h ∧ b < w * h ∧ s2C w h (outF (ar 5) (w * h) p0) (bitsF (fun i => decide (ar 5 i = nI 0)) (w * h) &&& (sl 1 c0 ^^^ (-1))) c0 a b) ∧ r = some (.int (nI 2)) ∧ σ2 = mdl K M (va_up sc 0 (nI 0)) ar σ0) ∨ (∃ p0 c0, p0 ≤ 1 ∧ c0 < w * h ∧ p = nI p0 ∧ c = nI c0 ∧ tb (outF (ar 5) (w * h) p0) c0 = true ∧ ¬ enC w h (outF (ar 5) (w * h) p0) c0 ∧ ¬ (∃ a, a < w * h ∧ s1C w h (outF (ar 5) (w * h) p0) (bitsF (fun i => decide (ar 5 i = nI 0)) (w * h) &&& (sl 1 c0 ^^^ (-1))) c0 a) ∧ ¬ (∃ a b, a < w * h ∧ b < w * h ∧ s2C w h (outF (ar 5) (w * h) p0) (bitsF (fun i => decide (ar 5 i = nI 0)) (w * h) &&& (sl 1 c0 ^^^ (-1))) c0 a b) ∧ r = some (.int (nI 0)) ∧ σ2 = mdl K M (va_up sc 0 (nI 2)) ar σ0))) := by
  obtain ⟨hw, hh, hw1, hw2, hh1, hh2⟩ := id hB
  have hn : w * h ≤ 49 := Nat.mul_le_mul hw2 hh2
  have hn1 : 16 ≤ w * h := Nat.mul_le_mul hw1 hh1
  refine g_intro [some (.ref M), some (.int p), some (.int c), none, none, none, none, none, none, none] (fun Γ hC => ?_) (by simp [g_en, lv_args, Value.category])
  refine g_aload_n (n := 1) hC rfl dX8_stonesToEnclose_0 ?_
  refine g_iload_n (n := 2) hC rfl dX8_stonesToEnclose_1 ?_
  refine g_iconst (n := 3) (v := (nI 0)) hC (by decide) dX8_stonesToEnclose_2 ?_
  refine g_iconst (n := 4) (v := (nI 1)) hC (by decide) dX8_stonesToEnclose_3 ?_
  refine g_cS (n := 7) hC gs_X8_80 (M_isInN K hD 0 1 (by omega) (by omega)) dX8_stonesToEnclose_4 ?_
  refine g_ifb_eq (n := 10) (tgt := 18) hC dX8_stonesToEnclose_7 (fun h7 => ?_) (fun h7 => ?_)
  ·
    refine g_iconst (n := 19) (v := (nI 1)) hC (by decide) dX8_stonesToEnclose_18 ?_
    refine g_goto (n := 36) hC dX8_stonesToEnclose_19 ?_
    refine m_put0 (n := 39) hC hD gp_X8_73 dX8_stonesToEnclose_36 ?_
    refine g_aload_n (n := 40) hC rfl dX8_stonesToEnclose_39 ?_
    refine m_get (v := .int (nI 1)) (n := 43) hC hD gf_X8_73 dX8_stonesToEnclose_40 rfl ?_
    refine g_if_le (n := 46) (tgt := 48) hC dX8_stonesToEnclose_43 (fun h9 => absurd h9 (by decide)) (fun _ => ?_)
    refine g_iconst (n := 47) (v := (nI 0)) hC (by decide) dX8_stonesToEnclose_46 ?_
    exact g_iret hC dX8_stonesToEnclose_47 (⟨rfl, rfl, (Or.inl ⟨fun q => h7 q.1, rfl, rfl⟩)⟩)
  ·
    obtain ⟨p0, hp0, hp1, rfl⟩ := h7
    refine g_aload_n (n := 11) hC rfl dX8_stonesToEnclose_10 ?_
    refine g_iload_n (n := 12) hC rfl dX8_stonesToEnclose_11 ?_
    refine g_cV (n := 15) hC gv_X8_150 (hD 0 (by decide)) mdl_0 (M_isCellN K hD hB) dX8_stonesToEnclose_12 ?_
    refine g_ifb_ne (n := 18) (tgt := 22) hC dX8_stonesToEnclose_15 (fun h15 => ?_) (fun h15 => ?_)
    ·
      obtain ⟨c0, hc1, rfl⟩ := h15
      refine g_aload_n (n := 23) hC rfl dX8_stonesToEnclose_22 ?_
      refine g_iload_n (n := 24) hC rfl dX8_stonesToEnclose_23 ?_
      refine g_iload_n (n := 25) hC rfl dX8_stonesToEnclose_24 ?_
      refine g_cV (n := 28) hC gv_X8_185 (hD 0 (by decide)) mdl_0 (M_isOutside K hD hB (p := p0) (c := c0) (by omega) (by omega)) dX8_stonesToEnclose_25 ?_
      refine g_ifb_ne (n := 31) (tgt := 35) hC dX8_stonesToEnclose_28 (fun h28 => ?_) (fun h28 => ?_)
      ·
        refine g_iconst (n := 36) (v := (nI 0)) hC (by decide) dX8_stonesToEnclose_35 ?_
        refine m_put0 (n := 39) hC hD gp_X8_73 dX8_stonesToEnclose_36 ?_
        refine g_aload_n (n := 40) hC rfl dX8_stonesToEnclose_39 ?_
        refine m_get (v := .int (nI 0)) (n := 43) hC hD gf_X8_73 dX8_stonesToEnclose_40 rfl ?_
        refine g_if_le (n := 46) (tgt := 48) hC dX8_stonesToEnclose_43 (fun _ => ?_) (fun h9 => absurd h9 (by decide))
        have hX : ∀ i, tb (outF (ar 5) (w * h) p0) i = true → i < w * h := fun i hi => outF_lt (by omega) hi
        refine g_aload_n (n := 49) hC rfl dX8_stonesToEnclose_48 ?_
        refine g_iload_n (n := 50) hC rfl dX8_stonesToEnclose_49 ?_
        refine g_cV (n := 53) hC gv_X8_111 (hD 0 (by decide)) mdl_0 (M_outside K hD (show mB (va_up sc 0 (nI 0)) w h from hB) (p := p0) (by omega)) dX8_stonesToEnclose_50 ?_
        refine g_lstore_n (n := 54) (ll1 := [some (.ref M), some (.int (nI p0)), some (.int (nI c0)), some (.long (outF (ar 5) (w * h) p0)), none, none, none, none, none, none]) hC dX8_stonesToEnclose_53 rfl ?_
        refine g_aload_n (n := 55) hC rfl dX8_stonesToEnclose_54 ?_
        refine g_lload_n (n := 56) hC rfl dX8_stonesToEnclose_55 ?_
        refine g_iload_n (n := 57) hC rfl dX8_stonesToEnclose_56 ?_
        refine g_cV (n := 60) hC gv_X8_188 (hD 0 (by decide)) mdl_0 (M_isEnclosed K hD (show mB (va_up sc 0 (nI 0)) w h from hB) (x := outF (ar 5) (w * h) p0) hX h28) dX8_stonesToEnclose_57 ?_
        refine g_ifb_eq (n := 63) (tgt := 65) hC dX8_stonesToEnclose_60 (fun h60 => ?_) (fun h60 => ?_)
        ·
          refine g_aload_n (n := 66) hC rfl dX8_stonesToEnclose_65 ?_
          refine g_iconst (n := 67) (v := (nI 0)) hC (by decide) dX8_stonesToEnclose_66 ?_
          refine g_cV (n := 70) hC gv_X8_105 (hD 0 (by decide)) mdl_0 (M_bits K hD (show mB (va_up sc 0 (nI 0)) w h from hB)) dX8_stonesToEnclose_67 ?_
          refine g_lconst (n := 71) (v := 1) hC (by decide) dX8_stonesToEnclose_70 ?_
          refine g_iload_n (n := 72) hC rfl dX8_stonesToEnclose_71 ?_
          refine g_lshlN (n := 73) hC (by omega) dX8_stonesToEnclose_72 ?_
          refine g_ldc2 (n := 76) hC gc_X8_95 dX8_stonesToEnclose_73 ?_
          refine g_lxor (n := 77) hC dX8_stonesToEnclose_76 ?_
          refine g_land (n := 78) hC dX8_stonesToEnclose_77 ?_
          refine g_lstore (n := 80) (ll1 := [some (.ref M), some (.int (nI p0)), some (.int (nI c0)), some (.long (outF (ar 5) (w * h) p0)), none, some (.long ((bitsF (fun i => decide ((ar 5) i = (nI 0))) (w * h)) &&& ((sl 1 c0) ^^^ (-1)))), none, none, none, none]) hC dX8_stonesToEnclose_78 rfl ?_
          refine g_iconst (n := 81) (v := (nI 3)) hC (by decide) dX8_stonesToEnclose_80 ?_
          refine g_istore (n := 83) (ll1 := [some (.ref M), some (.int (nI p0)), some (.int (nI c0)), some (.long (outF (ar 5) (w * h) p0)), none, some (.long ((bitsF (fun i => decide ((ar 5) i = (nI 0))) (w * h)) &&& ((sl 1 c0) ^^^ (-1)))), none, some (.int (nI 3)), none, none]) hC dX8_stonesToEnclose_81 rfl ?_
          refine g_iconst (n := 84) (v := (nI 0)) hC (by decide) dX8_stonesToEnclose_83 ?_
          refine g_istore (n := 86) (ll1 := [some (.ref M), some (.int (nI p0)), some (.int (nI c0)), some (.long (outF (ar 5) (w * h) p0)), none, some (.long ((bitsF (fun i => decide ((ar 5) i = (nI 0))) (w * h)) &&& ((sl 1 c0) ^^^ (-1)))), none, some (.int (nI 3)), some (.int (nI 0)), none]) hC dX8_stonesToEnclose_84 rfl ?_
          have lp86 : ∀ (n9 : Nat) (a0 : Nat) (ha0 : a0 ≤ w * h) (hn1s : ∀ a, a < a0 → ¬ s1C w h (outF (ar 5) (w * h) p0) (bitsF (fun i => decide (ar 5 i = nI 0)) (w * h) &&& (sl 1 c0 ^^^ (-1))) c0 a) (y7 : Int32) (ey7 : y7 = (nI (ifP (∃ a b, a < a0 ∧ b < w * h ∧ s2C w h (outF (ar 5) (w * h) p0) (bitsF (fun i => decide (ar 5 i = nI 0)) (w * h) &&& (sl 1 c0 ^^^ (-1))) c0 a b) 2 3))) (y8 : Int32) (ey8 : y8 = (nI a0)) (hm9 : w * h - a0 < n9), G K Γ (z, 0, 0, L) (mdl K M (va_up sc 0 (nI 0)) ar σ0) 86 [some (.ref M), some (.int (nI p0)), some (.int (nI c0)), some (.long (outF (ar 5) (w * h) p0)), none, some (.long (bitsF (fun i => decide (ar 5 i = nI 0)) (w * h) &&& (sl 1 c0 ^^^ (-1)))), none, some (.int y7), some (.int y8), none] [] := by
            intro n9
            induction n9 with
            | zero =>
              intro a0 ha0 hn1s y7 ey7 y8 ey8 hm9
              exact absurd hm9 (Nat.not_lt_zero _)
            | succ n9 ih86 =>
              intro a0 ha0 hn1s y7 ey7 y8 ey8 hm9
              subst ey7
              subst ey8
              have hle := ifP_le (p := ∃ a b, a < a0 ∧ b < w * h ∧ s2C w h (outF (ar 5) (w * h) p0) (bitsF (fun i => decide (ar 5 i = nI 0)) (w * h) &&& (sl 1 c0 ^^^ (-1))) c0 a b)
              refine g_iload (n := 88) hC rfl dX8_stonesToEnclose_86 ?_
              refine g_aload_n (n := 89) hC rfl dX8_stonesToEnclose_88 ?_
              refine g_cV (n := 92) hC gv_X8_76 (hD 0 (by decide)) mdl_0 (M_cells K hD (show mB (va_up sc 0 (nI 0)) w h from hB)) dX8_stonesToEnclose_89 ?_
              refine g_icmp_geN (n := 95) (tgt := 205) hC (by omega) (by omega) dX8_stonesToEnclose_92 (fun h92 => ?_) (fun h92 => ?_)
              ·
                refine g_iload (n := 207) hC rfl dX8_stonesToEnclose_205 ?_
                refine g_iconst (n := 208) (v := (nI 2)) hC (by decide) dX8_stonesToEnclose_207 ?_
                refine g_icmp_neN (n := 211) (tgt := 215) hC (by omega) (by omega) dX8_stonesToEnclose_208 (fun h208 => ?_) (fun h208 => ?_)
                ·
                  refine g_aload_n (n := 216) hC rfl dX8_stonesToEnclose_215 ?_
                  refine g_iconst (n := 217) (v := (nI 2)) hC (by decide) dX8_stonesToEnclose_216 ?_
                  refine g_cV (n := 220) hC gv_X8_178 (hD 0 (by decide)) mdl_0 (M_no K hD) dX8_stonesToEnclose_217 ?_
                  refine G.eqs (show _ = mdl K M (va_up (va_up sc 0 (nI 0)) 0 (nI 2)) ar σ0 from rfl) ?_
                  exact g_iret hC dX8_stonesToEnclose_220 (⟨rfl, rfl, (Or.inr (Or.inr (Or.inr (Or.inr (Or.inr ⟨p0, c0, hp1, hc1, rfl, rfl, h28, h60, fun q => by obtain ⟨a, q1, q2⟩ := q; exact hn1s a (by omega) q2, fun q => h208 (ifP_t (by obtain ⟨a, b, q1, q2⟩ := q; exact ⟨a, b, by omega, q2⟩)), rfl, rfl⟩)))))⟩)
                ·
                  refine g_iconst (n := 212) (v := (nI 2)) hC (by decide) dX8_stonesToEnclose_211 ?_
                  refine g_goto (n := 220) hC dX8_stonesToEnclose_212 ?_
                  exact g_iret hC dX8_stonesToEnclose_220 (⟨rfl, rfl, (Or.inr (Or.inr (Or.inr (Or.inr (Or.inl ⟨p0, c0, hp1, hc1, rfl, rfl, h28, h60, fun q => by obtain ⟨a, q1, q2⟩ := q; exact hn1s a (by omega) q2, by obtain ⟨a, b, q1, q2⟩ := ifP_2 h208; exact ⟨a, b, by omega, q2⟩, rfl, rfl⟩)))))⟩)
              ·
                refine g_lload (n := 97) hC rfl dX8_stonesToEnclose_95 ?_
                refine g_iload (n := 99) hC rfl dX8_stonesToEnclose_97 ?_
                refine g_lshrN (n := 100) hC (by omega) dX8_stonesToEnclose_99 ?_
                refine g_lconst (n := 101) (v := 1) hC (by decide) dX8_stonesToEnclose_100 ?_
                refine g_land (n := 102) hC dX8_stonesToEnclose_101 ?_
                refine g_lconst (n := 103) (v := 0) hC (by decide) dX8_stonesToEnclose_102 ?_
                refine g_lcmp_ne (n := 107) (tgt := 110) hC dX8_stonesToEnclose_103 dX8_stonesToEnclose_104 (fun h103 => ?_) (fun h103 => ?_)
                ·
                  have hma : tb (bitsF (fun i => decide (ar 5 i = nI 0)) (w * h) &&& (sl 1 c0 ^^^ (-1))) a0 = true := by
                    rcases e9 : tb (bitsF (fun i => decide (ar 5 i = nI 0)) (w * h) &&& (sl 1 c0 ^^^ (-1))) a0 with _ | _
                    · exact absurd ((sa1_0 (by omega) _).mpr e9) h103
                    · rfl
                  have hac : c0 ≠ a0 := fun q => by
                    have := (tb_less.mp hma).2
                    rw [← q, tb_one] at this
                    simp at this
                    omega
                  have hX1 : ∀ i, tb (outF (ar 5) (w * h) p0 &&& (sl 1 a0 ^^^ (-1))) i = true → i < w * h := fun i hi => hX i (tb_less.mp hi).1
                  have hc1a := tb_less1 (a := a0) h28 hac
                  refine g_aload_n (n := 111) hC rfl dX8_stonesToEnclose_110 ?_
                  refine g_lload_n (n := 112) hC rfl dX8_stonesToEnclose_111 ?_
                  refine g_lconst (n := 113) (v := 1) hC (by decide) dX8_stonesToEnclose_112 ?_
                  refine g_iload (n := 115) hC rfl dX8_stonesToEnclose_113 ?_
                  refine g_lshlN (n := 116) hC (by omega) dX8_stonesToEnclose_115 ?_
                  refine g_ldc2 (n := 119) hC gc_X8_95 dX8_stonesToEnclose_116 ?_
                  refine g_lxor (n := 120) hC dX8_stonesToEnclose_119 ?_
                  refine g_land (n := 121) hC dX8_stonesToEnclose_120 ?_
                  refine g_iload_n (n := 122) hC rfl dX8_stonesToEnclose_121 ?_
                  refine g_cV (n := 125) hC gv_X8_188 (hD 0 (by decide)) mdl_0 (M_isEnclosed K hD (show mB (va_up sc 0 (nI 0)) w h from hB) (x := (outF (ar 5) (w * h) p0 &&& (sl 1 a0 ^^^ (-1)))) hX1 hc1a) dX8_stonesToEnclose_122 ?_
                  refine g_ifb_eq (n := 128) (tgt := 130) hC dX8_stonesToEnclose_125 (fun h125 => ?_) (fun h125 => ?_)
                  ·
                    refine g_iload (n := 132) hC rfl dX8_stonesToEnclose_130 ?_
                    refine g_iconst (n := 133) (v := (nI 1)) hC (by decide) dX8_stonesToEnclose_132 ?_
                    refine g_iaddN (n := 134) hC dX8_stonesToEnclose_133 ?_
                    refine g_istore (n := 136) (ll1 := [some (.ref M), some (.int (nI p0)), some (.int (nI c0)), some (.long (outF (ar 5) (w * h) p0)), none, some (.long (bitsF (fun i => decide (ar 5 i = nI 0)) (w * h) &&& (sl 1 c0 ^^^ (-1)))), none, some (.int (nI (ifP (∃ a b, a < a0 ∧ b < w * h ∧ s2C w h (outF (ar 5) (w * h) p0) (bitsF (fun i => decide (ar 5 i = nI 0)) (w * h) &&& (sl 1 c0 ^^^ (-1))) c0 a b) 2 3))), some (.int (nI a0)), some (.int (nI (a0 + 1)))]) hC dX8_stonesToEnclose_134 rfl ?_
                    have lp136 : ∀ (n9 : Nat) (b0 : Nat) (hb0 : a0 < b0) (hb1 : b0 ≤ w * h) (y7 : Int32) (ey7 : y7 = (nI (ifP ((∃ a b, a < a0 ∧ b < w * h ∧ s2C w h (outF (ar 5) (w * h) p0) (bitsF (fun i => decide (ar 5 i = nI 0)) (w * h) &&& (sl 1 c0 ^^^ (-1))) c0 a b) ∨ ∃ b, b < b0 ∧ s2C w h (outF (ar 5) (w * h) p0) (bitsF (fun i => decide (ar 5 i = nI 0)) (w * h) &&& (sl 1 c0 ^^^ (-1))) c0 a0 b) 2 3))) (y9 : Int32) (ey9 : y9 = (nI b0)) (hm9 : w * h - b0 < n9), G K Γ (z, 0, 0, L) (mdl K M (va_up sc 0 (nI 0)) ar σ0) 136 [some (.ref M), some (.int (nI p0)), some (.int (nI c0)), some (.long (outF (ar 5) (w * h) p0)), none, some (.long (bitsF (fun i => decide (ar 5 i = nI 0)) (w * h) &&& (sl 1 c0 ^^^ (-1)))), none, some (.int y7), some (.int (nI a0)), some (.int y9)] [] := by
                      intro n9
                      induction n9 with
                      | zero =>
                        intro b0 hb0 hb1 y7 ey7 y9 ey9 hm9
                        exact absurd hm9 (Nat.not_lt_zero _)
                      | succ n9 ih136 =>
                        intro b0 hb0 hb1 y7 ey7 y9 ey9 hm9
                        subst ey7
                        subst ey9
                        have hle2 := ifP_le (p := (∃ a b, a < a0 ∧ b < w * h ∧ s2C w h (outF (ar 5) (w * h) p0) (bitsF (fun i => decide (ar 5 i = nI 0)) (w * h) &&& (sl 1 c0 ^^^ (-1))) c0 a b) ∨ ∃ b, b < b0 ∧ s2C w h (outF (ar 5) (w * h) p0) (bitsF (fun i => decide (ar 5 i = nI 0)) (w * h) &&& (sl 1 c0 ^^^ (-1))) c0 a0 b)
                        refine g_iload (n := 138) hC rfl dX8_stonesToEnclose_136 ?_
                        refine g_aload_n (n := 139) hC rfl dX8_stonesToEnclose_138 ?_
                        refine g_cV (n := 142) hC gv_X8_76 (hD 0 (by decide)) mdl_0 (M_cells K hD (show mB (va_up sc 0 (nI 0)) w h from hB)) dX8_stonesToEnclose_139 ?_
                        refine g_icmp_geN (n := 145) (tgt := 199) hC (by omega) (by omega) dX8_stonesToEnclose_142 (fun h142 => ?_) (fun h142 => ?_)
                        ·
                          refine g_iinc (n := 202) (ll1 := [some (.ref M), some (.int (nI p0)), some (.int (nI c0)), some (.long (outF (ar 5) (w * h) p0)), none, some (.long (bitsF (fun i => decide (ar 5 i = nI 0)) (w * h) &&& (sl 1 c0 ^^^ (-1)))), none, some (.int (nI (ifP ((∃ a b, a < a0 ∧ b < w * h ∧ s2C w h (outF (ar 5) (w * h) p0) (bitsF (fun i => decide (ar 5 i = nI 0)) (w * h) &&& (sl 1 c0 ^^^ (-1))) c0 a b) ∨ ∃ b, b < b0 ∧ s2C w h (outF (ar 5) (w * h) p0) (bitsF (fun i => decide (ar 5 i = nI 0)) (w * h) &&& (sl 1 c0 ^^^ (-1))) c0 a0 b) 2 3))), some (.int (nI (a0 + 1))), some (.int (nI b0))]) hC dX8_stonesToEnclose_199 rfl (nI_inc _) rfl ?_
                          refine g_goto (n := 86) hC dX8_stonesToEnclose_202 ?_
                          exact G.le (ih86 (a0 + 1) (by omega) (by first | exact (fun a q => absurd q (Nat.not_lt_zero _)) | exact st_nx hn1s (fun q => by first | exact h125 q.2 | exact absurd q.1 (by rw [(sa1_0 (by omega) _).mp h103]; decide))) _ (congrArg nI (ifP_c (st_all (Or.inl h142) hb1))) _ (by first | rfl | (simp [*]; done)) (by omega)) (And.intro rfl (And.intro rfl (And.intro rfl (And.intro rfl (And.intro rfl (And.intro rfl (And.intro rfl (trivial))))))))
                        ·
                          refine g_iload (n := 147) hC rfl dX8_stonesToEnclose_145 ?_
                          refine g_iconst (n := 148) (v := (nI 2)) hC (by decide) dX8_stonesToEnclose_147 ?_
                          refine g_icmp_leN (n := 151) (tgt := 199) hC (by omega) (by omega) dX8_stonesToEnclose_148 (fun h148 => ?_) (fun h148 => ?_)
                          ·
                            refine g_iinc (n := 202) (ll1 := [some (.ref M), some (.int (nI p0)), some (.int (nI c0)), some (.long (outF (ar 5) (w * h) p0)), none, some (.long (bitsF (fun i => decide (ar 5 i = nI 0)) (w * h) &&& (sl 1 c0 ^^^ (-1)))), none, some (.int (nI (ifP ((∃ a b, a < a0 ∧ b < w * h ∧ s2C w h (outF (ar 5) (w * h) p0) (bitsF (fun i => decide (ar 5 i = nI 0)) (w * h) &&& (sl 1 c0 ^^^ (-1))) c0 a b) ∨ ∃ b, b < b0 ∧ s2C w h (outF (ar 5) (w * h) p0) (bitsF (fun i => decide (ar 5 i = nI 0)) (w * h) &&& (sl 1 c0 ^^^ (-1))) c0 a0 b) 2 3))), some (.int (nI (a0 + 1))), some (.int (nI b0))]) hC dX8_stonesToEnclose_199 rfl (nI_inc _) rfl ?_
                            refine g_goto (n := 86) hC dX8_stonesToEnclose_202 ?_
                            exact G.le (ih86 (a0 + 1) (by omega) (by first | exact (fun a q => absurd q (Nat.not_lt_zero _)) | exact st_nx hn1s (fun q => by first | exact h125 q.2 | exact absurd q.1 (by rw [(sa1_0 (by omega) _).mp h103]; decide))) _ (congrArg nI (ifP_c (st_all (Or.inr (ifP_2 (by have h5 := hle2; have h6 := h148; have h7 := ifP_ge (p := (∃ a b, a < a0 ∧ b < w * h ∧ s2C w h (outF (ar 5) (w * h) p0) (bitsF (fun i => decide (ar 5 i = nI 0)) (w * h) &&& (sl 1 c0 ^^^ (-1))) c0 a b) ∨ ∃ b, b < b0 ∧ s2C w h (outF (ar 5) (w * h) p0) (bitsF (fun i => decide (ar 5 i = nI 0)) (w * h) &&& (sl 1 c0 ^^^ (-1))) c0 a0 b); omega))) hb1))) _ (by first | rfl | (simp [*]; done)) (by omega)) (And.intro rfl (And.intro rfl (And.intro rfl (And.intro rfl (And.intro rfl (And.intro rfl (And.intro rfl (trivial))))))))
                          ·
                            refine g_lload (n := 153) hC rfl dX8_stonesToEnclose_151 ?_
                            refine g_iload (n := 155) hC rfl dX8_stonesToEnclose_153 ?_
                            refine g_lshrN (n := 156) hC (by omega) dX8_stonesToEnclose_155 ?_
                            refine g_lconst (n := 157) (v := 1) hC (by decide) dX8_stonesToEnclose_156 ?_
                            refine g_land (n := 158) hC dX8_stonesToEnclose_157 ?_
                            refine g_lconst (n := 159) (v := 1) hC (by decide) dX8_stonesToEnclose_158 ?_
                            refine g_lcmp_ne (n := 163) (tgt := 193) hC dX8_stonesToEnclose_159 dX8_stonesToEnclose_160 (fun h159 => ?_) (fun h159 => ?_)
                            ·
                              refine g_iinc (n := 196) (ll1 := [some (.ref M), some (.int (nI p0)), some (.int (nI c0)), some (.long (outF (ar 5) (w * h) p0)), none, some (.long (bitsF (fun i => decide (ar 5 i = nI 0)) (w * h) &&& (sl 1 c0 ^^^ (-1)))), none, some (.int (nI (ifP ((∃ a b, a < a0 ∧ b < w * h ∧ s2C w h (outF (ar 5) (w * h) p0) (bitsF (fun i => decide (ar 5 i = nI 0)) (w * h) &&& (sl 1 c0 ^^^ (-1))) c0 a b) ∨ ∃ b, b < b0 ∧ s2C w h (outF (ar 5) (w * h) p0) (bitsF (fun i => decide (ar 5 i = nI 0)) (w * h) &&& (sl 1 c0 ^^^ (-1))) c0 a0 b) 2 3))), some (.int (nI a0)), some (.int (nI (b0 + 1)))]) hC dX8_stonesToEnclose_193 rfl (nI_inc _) rfl ?_
                              refine g_goto (n := 136) hC dX8_stonesToEnclose_196 ?_
                              exact ih136 (b0 + 1) (by omega) (by omega) _ (congrArg nI (ifP_c (st_bn (fun q => absurd ((sa1_1 (by omega) _).mpr q.2.2.1) h159)))) _ (by first | rfl | (simp [*]; done)) (by omega)
                            ·
                              have hmb : tb (bitsF (fun i => decide (ar 5 i = nI 0)) (w * h) &&& (sl 1 c0 ^^^ (-1))) b0 = true := (sa1_1 (by omega) _).mp h159
                              have hbc : c0 ≠ b0 := fun q => by
                                have := (tb_less.mp hmb).2
                                rw [← q, tb_one] at this
                                simp at this
                                omega
                              have hX2 : ∀ i, tb (outF (ar 5) (w * h) p0 &&& (sl 1 a0 ^^^ (-1)) &&& (sl 1 b0 ^^^ (-1))) i = true → i < w * h := fun i hi => hX1 i (tb_less.mp hi).1
                              have hc2b := tb_less1 (a := b0) hc1a hbc
                              refine g_aload_n (n := 164) hC rfl dX8_stonesToEnclose_163 ?_
                              refine g_lload_n (n := 165) hC rfl dX8_stonesToEnclose_164 ?_
                              refine g_lconst (n := 166) (v := 1) hC (by decide) dX8_stonesToEnclose_165 ?_
                              refine g_iload (n := 168) hC rfl dX8_stonesToEnclose_166 ?_
                              refine g_lshlN (n := 169) hC (by omega) dX8_stonesToEnclose_168 ?_
                              refine g_ldc2 (n := 172) hC gc_X8_95 dX8_stonesToEnclose_169 ?_
                              refine g_lxor (n := 173) hC dX8_stonesToEnclose_172 ?_
                              refine g_land (n := 174) hC dX8_stonesToEnclose_173 ?_
                              refine g_lconst (n := 175) (v := 1) hC (by decide) dX8_stonesToEnclose_174 ?_
                              refine g_iload (n := 177) hC rfl dX8_stonesToEnclose_175 ?_
                              refine g_lshlN (n := 178) hC (by omega) dX8_stonesToEnclose_177 ?_
                              refine g_ldc2 (n := 181) hC gc_X8_95 dX8_stonesToEnclose_178 ?_
                              refine g_lxor (n := 182) hC dX8_stonesToEnclose_181 ?_
                              refine g_land (n := 183) hC dX8_stonesToEnclose_182 ?_
                              refine g_iload_n (n := 184) hC rfl dX8_stonesToEnclose_183 ?_
                              refine g_cV (n := 187) hC gv_X8_188 (hD 0 (by decide)) mdl_0 (M_isEnclosed K hD (show mB (va_up sc 0 (nI 0)) w h from hB) (x := (outF (ar 5) (w * h) p0 &&& (sl 1 a0 ^^^ (-1)) &&& (sl 1 b0 ^^^ (-1)))) hX2 hc2b) dX8_stonesToEnclose_184 ?_
                              refine g_ifb_eq (n := 190) (tgt := 193) hC dX8_stonesToEnclose_187 (fun h187 => ?_) (fun h187 => ?_)
                              ·
                                refine g_iinc (n := 196) (ll1 := [some (.ref M), some (.int (nI p0)), some (.int (nI c0)), some (.long (outF (ar 5) (w * h) p0)), none, some (.long (bitsF (fun i => decide (ar 5 i = nI 0)) (w * h) &&& (sl 1 c0 ^^^ (-1)))), none, some (.int (nI (ifP ((∃ a b, a < a0 ∧ b < w * h ∧ s2C w h (outF (ar 5) (w * h) p0) (bitsF (fun i => decide (ar 5 i = nI 0)) (w * h) &&& (sl 1 c0 ^^^ (-1))) c0 a b) ∨ ∃ b, b < b0 ∧ s2C w h (outF (ar 5) (w * h) p0) (bitsF (fun i => decide (ar 5 i = nI 0)) (w * h) &&& (sl 1 c0 ^^^ (-1))) c0 a0 b) 2 3))), some (.int (nI a0)), some (.int (nI (b0 + 1)))]) hC dX8_stonesToEnclose_193 rfl (nI_inc _) rfl ?_
                                refine g_goto (n := 136) hC dX8_stonesToEnclose_196 ?_
                                exact ih136 (b0 + 1) (by omega) (by omega) _ (congrArg nI (ifP_c (st_bn (fun q => h187 q.2.2.2)))) _ (by first | rfl | (simp [*]; done)) (by omega)
                              ·
                                refine g_iconst (n := 191) (v := (nI 2)) hC (by decide) dX8_stonesToEnclose_190 ?_
                                refine g_istore (n := 193) (ll1 := [some (.ref M), some (.int (nI p0)), some (.int (nI c0)), some (.long (outF (ar 5) (w * h) p0)), none, some (.long (bitsF (fun i => decide (ar 5 i = nI 0)) (w * h) &&& (sl 1 c0 ^^^ (-1)))), none, some (.int (nI 2)), some (.int (nI a0)), some (.int (nI b0))]) hC dX8_stonesToEnclose_191 rfl ?_
                                refine g_iinc (n := 196) (ll1 := [some (.ref M), some (.int (nI p0)), some (.int (nI c0)), some (.long (outF (ar 5) (w * h) p0)), none, some (.long (bitsF (fun i => decide (ar 5 i = nI 0)) (w * h) &&& (sl 1 c0 ^^^ (-1)))), none, some (.int (nI 2)), some (.int (nI a0)), some (.int (nI (b0 + 1)))]) hC dX8_stonesToEnclose_193 rfl (nI_inc _) rfl ?_
                                refine g_goto (n := 136) hC dX8_stonesToEnclose_196 ?_
                                exact ih136 (b0 + 1) (by omega) (by omega) _ (congrArg nI (Eq.symm (ifP_t (Or.inr ⟨b0, by omega, hma, by omega, hmb, h187⟩)))) _ (by first | rfl | (simp [*]; done)) (by omega)
                    exact lp136 _ (a0 + 1) (by omega) (by omega) _ (congrArg nI (ifP_c (st_b0))) _ (by first | rfl | (simp [*]; done)) (Nat.lt_succ_self _)
                  ·
                    refine g_iconst (n := 129) (v := (nI 1)) hC (by decide) dX8_stonesToEnclose_128 ?_
                    exact g_iret hC dX8_stonesToEnclose_129 (⟨rfl, rfl, (Or.inr (Or.inr (Or.inr (Or.inl ⟨p0, c0, hp1, hc1, rfl, rfl, h28, h60, ⟨a0, h92, hma, h125⟩, rfl, rfl⟩))))⟩)
                ·
                  refine g_goto (n := 199) hC dX8_stonesToEnclose_107 ?_
                  refine g_iinc (n := 202) (ll1 := [some (.ref M), some (.int (nI p0)), some (.int (nI c0)), some (.long (outF (ar 5) (w * h) p0)), none, some (.long (bitsF (fun i => decide (ar 5 i = nI 0)) (w * h) &&& (sl 1 c0 ^^^ (-1)))), none, some (.int (nI (ifP (∃ a b, a < a0 ∧ b < w * h ∧ s2C w h (outF (ar 5) (w * h) p0) (bitsF (fun i => decide (ar 5 i = nI 0)) (w * h) &&& (sl 1 c0 ^^^ (-1))) c0 a b) 2 3))), some (.int (nI (a0 + 1))), none]) hC dX8_stonesToEnclose_199 rfl (nI_inc _) rfl ?_
                  refine g_goto (n := 86) hC dX8_stonesToEnclose_202 ?_
                  exact ih86 (a0 + 1) (by omega) (by first | exact (fun a q => absurd q (Nat.not_lt_zero _)) | exact st_nx hn1s (fun q => by first | exact h125 q.2 | exact absurd q.1 (by rw [(sa1_0 (by omega) _).mp h103]; decide))) _ (congrArg nI (ifP_c (st_skip (fun b q => absurd q.1 (by rw [(sa1_0 (by omega) _).mp h103]; decide))))) _ (by first | rfl | (simp [*]; done)) (by omega)
          exact lp86 _ 0 (by omega) (by first | exact (fun a q => absurd q (Nat.not_lt_zero _)) | exact st_nx hn1s (fun q => by first | exact h125 q.2 | exact absurd q.1 (by rw [(sa1_0 (by omega) _).mp h103]; decide))) _ (by rw [ifP_f (fun q => by obtain ⟨a, b, q1, -⟩ := q; omega)]) _ (by first | rfl | (simp [*]; done)) (Nat.lt_succ_self _)
        ·
          refine g_iconst (n := 64) (v := (nI 0)) hC (by decide) dX8_stonesToEnclose_63 ?_
          exact g_iret hC dX8_stonesToEnclose_64 (⟨rfl, rfl, (Or.inr (Or.inr (Or.inl ⟨p0, c0, hp1, hc1, rfl, rfl, h28, h60, rfl, rfl⟩)))⟩)
      ·
        refine g_iconst (n := 32) (v := (nI 2)) hC (by decide) dX8_stonesToEnclose_31 ?_
        refine g_goto (n := 36) hC dX8_stonesToEnclose_32 ?_
        refine m_put0 (n := 39) hC hD gp_X8_73 dX8_stonesToEnclose_36 ?_
        refine g_aload_n (n := 40) hC rfl dX8_stonesToEnclose_39 ?_
        refine m_get (v := .int (nI 2)) (n := 43) hC hD gf_X8_73 dX8_stonesToEnclose_40 rfl ?_
        refine g_if_le (n := 46) (tgt := 48) hC dX8_stonesToEnclose_43 (fun h9 => absurd h9 (by decide)) (fun _ => ?_)
        refine g_iconst (n := 47) (v := (nI 0)) hC (by decide) dX8_stonesToEnclose_46 ?_
        exact g_iret hC dX8_stonesToEnclose_47 (⟨rfl, rfl, (Or.inr (Or.inl ⟨p0, c0, hp1, hc1, rfl, rfl, by simpa using h28, rfl, rfl⟩))⟩)
    ·
      refine g_iconst (n := 19) (v := (nI 1)) hC (by decide) dX8_stonesToEnclose_18 ?_
      refine g_goto (n := 36) hC dX8_stonesToEnclose_19 ?_
      refine m_put0 (n := 39) hC hD gp_X8_73 dX8_stonesToEnclose_36 ?_
      refine g_aload_n (n := 40) hC rfl dX8_stonesToEnclose_39 ?_
      refine m_get (v := .int (nI 1)) (n := 43) hC hD gf_X8_73 dX8_stonesToEnclose_40 rfl ?_
      refine g_if_le (n := 46) (tgt := 48) hC dX8_stonesToEnclose_43 (fun h9 => absurd h9 (by decide)) (fun _ => ?_)
      refine g_iconst (n := 47) (v := (nI 0)) hC (by decide) dX8_stonesToEnclose_46 ?_
      exact g_iret hC dX8_stonesToEnclose_47 (⟨rfl, rfl, (Or.inl ⟨fun q => h15 q.2, rfl, rfl⟩)⟩)
