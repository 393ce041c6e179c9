set_option maxRecDepth 20000 in
theorem M_begins (K : GK) {M : Nat} {sc : Nat → Int32} {ar : Nat → Nat → Int32} {σ0 : GS} {L : List Nat} {z : Nat} (hD : mdom M L) {w h : Nat} (hB : mB sc w h) {k : Nat} (hk : k ≤ 4) : gT K yX8_begins cX8_begins 5 none 0 [.ref M, .int (nI k)] z L (mdl K M sc ar σ0) none (mdl K M sc (va_up ar 5 (bgF w h (ar 5) k)) σ0) := by
  obtain ⟨hw, hh, hw1, hw2, hh1, hh2⟩ := id hB
  have hn : w * h ≤ 49 := Nat.mul_le_mul hw2 hh2
  have hn1 : 16 ≤ w * h := Nat.mul_le_mul hw1 hh1
  refine g_intro [some (.ref M), some (.int (nI k)), none, none, none] (fun Γ hC => ?_) (by simp [g_en, lv_args, Value.category])
  have lp41 : ∀ (n9 : Nat) (c : Nat) (hc : c ≤ k) (y2 : Int32) (ey2 : y2 = (nI c)) (hm9 : k - c < n9), G K Γ (z, 0, 0, L) (mdl K M sc (va_up ar 5 (bgF w h (ar 5) c)) σ0) 41 [some (.ref M), some (.int (nI k)), some (.int y2), none, none] [] := by
    intro n9
    induction n9 with
    | zero =>
      intro c hc y2 ey2 hm9
      exact absurd hm9 (Nat.not_lt_zero _)
    | succ n9 ih41 =>
      intro c hc y2 ey2 hm9
      subst ey2
      refine g_iload_n (n := 42) hC rfl dX8_begins_41 ?_
      refine g_iload_n (n := 43) hC rfl dX8_begins_42 ?_
      refine g_icmp_geN (n := 46) (tgt := 108) hC (by omega) (by omega) dX8_begins_43 (fun h43 => ?_) (fun h43 => ?_)
      ·
        exact g_vret hC dX8_begins_108 (⟨rfl, rfl, rfl, (by rw [show c = k by omega])⟩)
      ·
        have lp65 : ∀ (ys0 : Int32) (eys0 : ys0 = (nI (hcR h c))), G K Γ (z, 0, 0, L) (mdl K M sc (va_up ar 5 (bgF w h (ar 5) c)) σ0) 65 [some (.ref M), some (.int (nI k)), some (.int (nI c)), none, none] [.int ys0] := by
          intro ys0 eys0
          subst eys0
          refine g_istore_n (n := 66) (ll1 := [some (.ref M), some (.int (nI k)), some (.int (nI c)), some (.int (nI (hcR h c))), none]) hC dX8_begins_65 rfl ?_
          have lp85 : ∀ (ys0 : Int32) (eys0 : ys0 = (nI (hcK w c))), G K Γ (z, 0, 0, L) (mdl K M sc (va_up ar 5 (bgF w h (ar 5) c)) σ0) 85 [some (.ref M), some (.int (nI k)), some (.int (nI c)), some (.int (nI (hcR h c))), none] [.int ys0] := by
            intro ys0 eys0
            subst eys0
            refine g_istore (n := 87) (ll1 := [some (.ref M), some (.int (nI k)), some (.int (nI c)), some (.int (nI (hcR h c))), some (.int (nI (hcK w c)))]) hC dX8_begins_85 rfl ?_
            refine g_aload_n (n := 88) hC rfl dX8_begins_87 ?_
            refine m_get (v := .ref (M + 2)) (n := 91) hC hD gf_X8_20 dX8_begins_88 rfl ?_
            refine g_iload_n (n := 92) hC rfl dX8_begins_91 ?_
            refine g_aload_n (n := 93) hC rfl dX8_begins_92 ?_
            refine m_get (v := .int (nI w)) (n := 96) hC hD gf_X8_9 dX8_begins_93 (congrArg (fun x => some (Value.int x)) (hw)) ?_
            refine g_imulN (n := 97) hC dX8_begins_96 ?_
            refine g_iload (n := 99) hC rfl dX8_begins_97 ?_
            refine g_iaddN (n := 100) hC dX8_begins_99 ?_
            refine g_iconst (n := 101) (v := (nI 2)) hC (by decide) dX8_begins_100 ?_
            refine m_st5 (f := (bgF w h (ar 5) c)) (n := 102) hC hD (((hcR h c) * w) + (hcK w c)) dX8_begins_101 (rfl) (by have := hcC_lt (w := w) (h := h) (i := c) hw1 hh1; rw [hcC] at this; omega) rfl ?_
            refine G.eqs mdl_uu ?_
            refine g_iinc (n := 105) (ll1 := [some (.ref M), some (.int (nI k)), some (.int (nI (c + 1))), some (.int (nI (hcR h c))), some (.int (nI (hcK w c)))]) hC dX8_begins_102 rfl (nI_inc _) rfl ?_
            refine g_goto (n := 41) hC dX8_begins_105 ?_
            refine G.eqs (show _ = mdl K M sc (va_up ar 5 (bgF w h (ar 5) (c + 1))) σ0 from rfl) ?_
            exact G.le (ih41 (c + 1) (by omega) _ (by first | rfl | (simp [*]; done)) (by omega)) (And.intro rfl (And.intro rfl (And.intro rfl (trivial))))
          refine g_iload_n (n := 67) hC rfl dX8_begins_66 ?_
          refine g_if_eqN (n := 70) (tgt := 75) hC (by omega) dX8_begins_67 (fun h67 => ?_) (fun h67 => ?_)
          ·
            refine g_iconst (n := 76) (v := (nI 1)) hC (by decide) dX8_begins_75 ?_
            refine g_goto (n := 85) hC dX8_begins_76 ?_
            exact lp85  _ (by rw [hcK, if_pos (Or.inl h67)])
          ·
            refine g_iload_n (n := 71) hC rfl dX8_begins_70 ?_
            refine g_iconst (n := 72) (v := (nI 3)) hC (by decide) dX8_begins_71 ?_
            refine g_icmp_neN (n := 75) (tgt := 79) hC (by omega) (by omega) dX8_begins_72 (fun h72 => ?_) (fun h72 => ?_)
            ·
              refine g_aload_n (n := 80) hC rfl dX8_begins_79 ?_
              refine m_get (v := .int (nI w)) (n := 83) hC hD gf_X8_9 dX8_begins_80 (congrArg (fun x => some (Value.int x)) (hw)) ?_
              refine g_iconst (n := 84) (v := (nI 2)) hC (by decide) dX8_begins_83 ?_
              refine g_isubN (n := 85) hC (by omega) dX8_begins_84 ?_
              exact lp85  _ (by rw [hcK, if_neg (fun q => q.elim h67 h72)])
            ·
              refine g_iconst (n := 76) (v := (nI 1)) hC (by decide) dX8_begins_75 ?_
              refine g_goto (n := 85) hC dX8_begins_76 ?_
              exact lp85  _ (by rw [hcK, if_pos (Or.inr h72)])
        refine g_iload_n (n := 47) hC rfl dX8_begins_46 ?_
        refine g_if_eqN (n := 50) (tgt := 55) hC (by omega) dX8_begins_47 (fun h47 => ?_) (fun h47 => ?_)
        ·
          refine g_iconst (n := 56) (v := (nI 1)) hC (by decide) dX8_begins_55 ?_
          refine g_goto (n := 65) hC dX8_begins_56 ?_
          exact lp65  _ (by rw [hcR, if_pos (Or.inl h47)])
        ·
          refine g_iload_n (n := 51) hC rfl dX8_begins_50 ?_
          refine g_iconst (n := 52) (v := (nI 2)) hC (by decide) dX8_begins_51 ?_
          refine g_icmp_neN (n := 55) (tgt := 59) hC (by omega) (by omega) dX8_begins_52 (fun h52 => ?_) (fun h52 => ?_)
          ·
            refine g_aload_n (n := 60) hC rfl dX8_begins_59 ?_
            refine m_get (v := .int (nI h)) (n := 63) hC hD gf_X8_13 dX8_begins_60 (congrArg (fun x => some (Value.int x)) (hh)) ?_
            refine g_iconst (n := 64) (v := (nI 2)) hC (by decide) dX8_begins_63 ?_
            refine g_isubN (n := 65) hC (by omega) dX8_begins_64 ?_
            exact lp65  _ (by rw [hcR, if_neg (fun q => q.elim h47 h52)])
          ·
            refine g_iconst (n := 56) (v := (nI 1)) hC (by decide) dX8_begins_55 ?_
            refine g_goto (n := 65) hC dX8_begins_56 ?_
            exact lp65  _ (by rw [hcR, if_pos (Or.inr h52)])
  refine g_iconst (n := 1) (v := (nI 0)) hC (by decide) dX8_begins_0 ?_
  refine g_istore_n (n := 2) (ll1 := [some (.ref M), some (.int (nI k)), some (.int (nI 0)), none, none]) hC dX8_begins_1 rfl ?_
  have lp2 : ∀ (n9 : Nat) (c : Nat) (hc : c ≤ 155) (y2 : Int32) (ey2 : y2 = (nI c)) (hm9 : 155 - c < n9), G K Γ (z, 0, 0, L) (mdl K M sc (va_up ar 5 (bgP (ar 5) c)) σ0) 2 [some (.ref M), some (.int (nI k)), some (.int y2), none, none] [] := by
    intro n9
    induction n9 with
    | zero =>
      intro c hc y2 ey2 hm9
      exact absurd hm9 (Nat.not_lt_zero _)
    | succ n9 ih2 =>
      intro c hc y2 ey2 hm9
      subst ey2
      refine g_iload_n (n := 3) hC rfl dX8_begins_2 ?_
      refine g_sipush (n := 6) (v := (nI 155)) hC (by decide) dX8_begins_3 ?_
      refine g_icmp_geN (n := 9) (tgt := 39) hC (by omega) (by omega) dX8_begins_6 (fun h6 => ?_) (fun h6 => ?_)
      ·
        refine g_iconst (n := 40) (v := (nI 0)) hC (by decide) dX8_begins_39 ?_
        refine g_istore_n (n := 41) (ll1 := [some (.ref M), some (.int (nI k)), some (.int (nI 0)), none, none]) hC dX8_begins_40 rfl ?_
        refine G.eqs (show _ = mdl K M sc (va_up ar 5 (bgF w h (ar 5) 0)) σ0 from (by rw [show c = 155 by omega, bgP_n]; rfl)) ?_
        exact lp41 _ 0 (by omega) _ (by first | rfl | (simp [*]; done)) (Nat.lt_succ_self _)
      ·
        refine g_aload_n (n := 10) hC rfl dX8_begins_9 ?_
        refine m_get (v := .ref (M + 2)) (n := 13) hC hD gf_X8_20 dX8_begins_10 rfl ?_
        refine g_iload_n (n := 14) hC rfl dX8_begins_13 ?_
        refine g_iload_n (n := 15) hC rfl dX8_begins_14 ?_
        refine g_bipush (n := 17) (v := (nI 49)) hC (by decide) dX8_begins_15 ?_
        refine g_icmp_ltN (n := 20) (tgt := 31) hC (by omega) (by omega) dX8_begins_17 (fun h17 => ?_) (fun h17 => ?_)
        ·
          refine g_iconst (n := 32) (v := (nI 0)) hC (by decide) dX8_begins_31 ?_
          refine m_st5 (f := (bgP (ar 5) c)) (n := 33) hC hD c dX8_begins_32 (rfl) (by omega) rfl ?_
          refine G.eqs mdl_uu ?_
          refine g_iinc (n := 36) (ll1 := [some (.ref M), some (.int (nI k)), some (.int (nI (c + 1))), none, none]) hC dX8_begins_33 rfl (nI_inc _) rfl ?_
          refine g_goto (n := 2) hC dX8_begins_36 ?_
          refine G.eqs (show _ = mdl K M sc (va_up ar 5 (bgP (ar 5) (c + 1))) σ0 from (by rw [bgP_s _ _ _ (by rw [if_neg (by omega)])])) ?_
          exact ih2 (c + 1) (by omega) _ (by first | rfl | (simp [*]; done)) (by omega)
        ·
          refine g_iload_n (n := 21) hC rfl dX8_begins_20 ?_
          refine g_sipush (n := 24) (v := (nI 147)) hC (by decide) dX8_begins_21 ?_
          refine g_icmp_geN (n := 27) (tgt := 31) hC (by omega) (by omega) dX8_begins_24 (fun h24 => ?_) (fun h24 => ?_)
          ·
            refine g_iconst (n := 32) (v := (nI 0)) hC (by decide) dX8_begins_31 ?_
            refine m_st5 (f := (bgP (ar 5) c)) (n := 33) hC hD c dX8_begins_32 (rfl) (by omega) rfl ?_
            refine G.eqs mdl_uu ?_
            refine g_iinc (n := 36) (ll1 := [some (.ref M), some (.int (nI k)), some (.int (nI (c + 1))), none, none]) hC dX8_begins_33 rfl (nI_inc _) rfl ?_
            refine g_goto (n := 2) hC dX8_begins_36 ?_
            refine G.eqs (show _ = mdl K M sc (va_up ar 5 (bgP (ar 5) (c + 1))) σ0 from (by rw [bgP_s _ _ _ (by rw [if_neg (by omega)])])) ?_
            exact ih2 (c + 1) (by omega) _ (by first | rfl | (simp [*]; done)) (by omega)
          ·
            refine g_iconst (n := 28) (v := (-1)) hC (by decide) dX8_begins_27 ?_
            refine g_goto (n := 32) hC dX8_begins_28 ?_
            refine m_st5 (f := (bgP (ar 5) c)) (n := 33) hC hD c dX8_begins_32 (rfl) (by omega) rfl ?_
            refine G.eqs mdl_uu ?_
            refine g_iinc (n := 36) (ll1 := [some (.ref M), some (.int (nI k)), some (.int (nI (c + 1))), none, none]) hC dX8_begins_33 rfl (nI_inc _) rfl ?_
            refine g_goto (n := 2) hC dX8_begins_36 ?_
            refine G.eqs (show _ = mdl K M sc (va_up ar 5 (bgP (ar 5) (c + 1))) σ0 from (by rw [bgP_s _ _ _ (by rw [if_pos (by omega)])])) ?_
            exact ih2 (c + 1) (by omega) _ (by first | rfl | (simp [*]; done)) (by omega)
  refine G.eqs (show _ = mdl K M sc (va_up ar 5 (bgP (ar 5) 0)) σ0 from (by rw [bgP_0, va_up_same])) ?_
  exact lp2 _ 0 (by omega) _ (by first | rfl | (simp [*]; done)) (Nat.lt_succ_self _)

set_option maxRecDepth 20000 in
theorem M_setRule (K : GK) {M : Nat} {sc : Nat → Int32} {ar : Nat → Nat → Int32} {σ0 : GS} {L : List Nat} {z : Nat} (hD : mdom M L) {w h : Nat} (hB : mB sc w h) {x : Int32} : gM K yX8_setRule cX8_setRule 3 (some .int) 1 0 0 [.ref M, .int x] z L (mdl K M sc ar σ0) (fun r z1 L1 σ2 => z1 = z ∧ L1 = L ∧ ((¬ inR 0 2 x ∧ r = some (.int (nI 0)) ∧ σ2 = mdl K M (va_up sc 0 (nI 1)) ar σ0) ∨ (∃ x0, x0 ≤ 2 ∧ x = nI x0 ∧ r = some (.int (sc 3)) ∧ σ2 = mdl K M (va_up (va_up sc 0 (nI 0)) 3 (nI x0)) ar σ0))) := by
  obtain ⟨hw, hh, hw1, hw2, hh1, hh2⟩ := id hB
  have hn : w * h ≤ 49 := Nat.mul_le_mul hw2 hh2
  have hn1 : 16 ≤ w * h := Nat.mul_le_mul hw1 hh1
  refine g_intro [some (.ref M), some (.int x), none] (fun Γ hC => ?_) (by simp [g_en, lv_args, Value.category])
  refine g_aload_n (n := 1) hC rfl dX8_setRule_0 ?_
  refine g_iload_n (n := 2) hC rfl dX8_setRule_1 ?_
  refine g_iconst (n := 3) (v := (nI 0)) hC (by decide) dX8_setRule_2 ?_
  refine g_iconst (n := 4) (v := (nI 2)) hC (by decide) dX8_setRule_3 ?_
  refine g_cS (n := 7) hC gs_X8_80 (M_isInN K hD 0 2 (by omega) (by omega)) dX8_setRule_4 ?_
  refine g_ifb_eq (n := 10) (tgt := 14) hC dX8_setRule_7 (fun h7 => ?_) (fun h7 => ?_)
  ·
    refine g_iconst (n := 15) (v := (nI 1)) hC (by decide) dX8_setRule_14 ?_
    refine m_put0 (n := 18) hC hD gp_X8_73 dX8_setRule_15 ?_
    refine g_aload_n (n := 19) hC rfl dX8_setRule_18 ?_
    refine m_get (v := .int (nI 1)) (n := 22) hC hD gf_X8_73 dX8_setRule_19 rfl ?_
    refine g_iconst (n := 23) (v := (nI 1)) hC (by decide) dX8_setRule_22 ?_
    refine g_icmp_neN (n := 26) (tgt := 28) hC (by decide) (by decide) dX8_setRule_23 (fun h9 => absurd h9 (by decide)) (fun _ => ?_)
    refine g_iconst (n := 27) (v := (nI 0)) hC (by decide) dX8_setRule_26 ?_
    exact g_iret hC dX8_setRule_27 (⟨rfl, rfl, (Or.inl ⟨h7, rfl, rfl⟩)⟩)
  ·
    obtain ⟨x0, hx0, hx1, rfl⟩ := h7
    refine g_iconst (n := 11) (v := (nI 0)) hC (by decide) dX8_setRule_10 ?_
    refine g_goto (n := 15) hC dX8_setRule_11 ?_
    refine m_put0 (n := 18) hC hD gp_X8_73 dX8_setRule_15 ?_
    refine g_aload_n (n := 19) hC rfl dX8_setRule_18 ?_
    refine m_get (v := .int (nI 0)) (n := 22) hC hD gf_X8_73 dX8_setRule_19 rfl ?_
    refine g_iconst (n := 23) (v := (nI 1)) hC (by decide) dX8_setRule_22 ?_
    refine g_icmp_neN (n := 26) (tgt := 28) hC (by decide) (by decide) dX8_setRule_23 (fun _ => ?_) (fun h9 => absurd h9 (by decide))
    refine g_aload_n (n := 29) hC rfl dX8_setRule_28 ?_
    refine m_get (v := .int (sc 3)) (n := 32) hC hD gf_X8_88 dX8_setRule_29 rfl ?_
    refine g_istore_n (n := 33) (ll1 := [some (.ref M), some (.int (nI x0)), some (.int (sc 3))]) hC dX8_setRule_32 rfl ?_
    refine g_aload_n (n := 34) hC rfl dX8_setRule_33 ?_
    refine g_iload_n (n := 35) hC rfl dX8_setRule_34 ?_
    refine m_put3 (n := 38) hC hD gp_X8_88 dX8_setRule_35 ?_
    refine g_iload_n (n := 39) hC rfl dX8_setRule_38 ?_
    exact g_iret hC dX8_setRule_39 (⟨rfl, rfl, (Or.inr ⟨x0, hx1, rfl, rfl, rfl⟩)⟩)

set_option maxRecDepth 20000 in
theorem M_setBonus (K : GK) {M : Nat} {sc : Nat → Int32} {ar : Nat → Nat → Int32} {σ0 : GS} {L : List Nat} {z : Nat} (hD : mdom M L) {w h : Nat} (hB : mB sc w h) {p x : Int32} : gM K yX8_setBonus cX8_setBonus 4 (some .int) 1 0 0 [.ref M, .int p, .int x] z L (mdl K M sc ar σ0) (fun r z1 L1 σ2 => z1 = z ∧ L1 = L ∧ ((¬ inR 0 1 p ∧ r = some (.int (nI 0)) ∧ σ2 = mdl K M (va_up sc 0 (nI 1)) ar σ0) ∨ (inR 0 1 p ∧ ¬ inR 0 20 x ∧ r = some (.int (nI 0)) ∧ σ2 = mdl K M (va_up sc 0 (nI 2)) ar σ0) ∨ (∃ p0 x0, p0 ≤ 1 ∧ x0 ≤ 20 ∧ p = nI p0 ∧ x = nI x0 ∧ r = some (.int (ar 4 p0)) ∧ σ2 = mdl K M (va_up sc 0 (nI 0)) (va_up ar 4 (va_up (ar 4) p0 (nI x0))) σ0))) := by
  obtain ⟨hw, hh, hw1, hw2, hh1, hh2⟩ := id hB
  have hn : w * h ≤ 49 := Nat.mul_le_mul hw2 hh2
  have hn1 : 16 ≤ w * h := Nat.mul_le_mul hw1 hh1
  refine g_intro [some (.ref M), some (.int p), some (.int x), none] (fun Γ hC => ?_) (by simp [g_en, lv_args, Value.category])
  refine g_aload_n (n := 1) hC rfl dX8_setBonus_0 ?_
  refine g_iload_n (n := 2) hC rfl dX8_setBonus_1 ?_
  refine g_iconst (n := 3) (v := (nI 0)) hC (by decide) dX8_setBonus_2 ?_
  refine g_iconst (n := 4) (v := (nI 1)) hC (by decide) dX8_setBonus_3 ?_
  refine g_cS (n := 7) hC gs_X8_80 (M_isInN K hD 0 1 (by omega) (by omega)) dX8_setBonus_4 ?_
  refine g_ifb_ne (n := 10) (tgt := 14) hC dX8_setBonus_7 (fun h7 => ?_) (fun h7 => ?_)
  ·
    obtain ⟨p0, hp0, hp1, rfl⟩ := h7
    refine g_iload_n (n := 15) hC rfl dX8_setBonus_14 ?_
    refine g_iconst (n := 16) (v := (nI 0)) hC (by decide) dX8_setBonus_15 ?_
    refine g_bipush (n := 18) (v := (nI 20)) hC (by decide) dX8_setBonus_16 ?_
    refine g_cS (n := 21) hC gs_X8_80 (M_isInN K hD 0 20 (by omega) (by omega)) dX8_setBonus_18 ?_
    refine g_ifb_ne (n := 24) (tgt := 28) hC dX8_setBonus_21 (fun h21 => ?_) (fun h21 => ?_)
    ·
      obtain ⟨x0, hx0, hx1, rfl⟩ := h21
      refine g_iconst (n := 29) (v := (nI 0)) hC (by decide) dX8_setBonus_28 ?_
      refine m_put0 (n := 32) hC hD gp_X8_73 dX8_setBonus_29 ?_
      refine g_aload_n (n := 33) hC rfl dX8_setBonus_32 ?_
      refine m_get (v := .int (nI 0)) (n := 36) hC hD gf_X8_73 dX8_setBonus_33 rfl ?_
      refine g_if_le (n := 39) (tgt := 41) hC dX8_setBonus_36 (fun _ => ?_) (fun h9 => absurd h9 (by decide))
      refine g_aload_n (n := 42) hC rfl dX8_setBonus_41 ?_
      refine m_get (v := .ref (M + 1)) (n := 45) hC hD gf_X8_16 dX8_setBonus_42 rfl ?_
      refine g_iload_n (n := 46) hC rfl dX8_setBonus_45 ?_
      refine m_ld4 (x := ((ar 4) p0)) (n := 47) hC hD p0 dX8_setBonus_46 (rfl) (by omega) (rfl) ?_
      refine g_istore_n (n := 48) (ll1 := [some (.ref M), some (.int (nI p0)), some (.int (nI x0)), some (.int ((ar 4) p0))]) hC dX8_setBonus_47 rfl ?_
      refine g_aload_n (n := 49) hC rfl dX8_setBonus_48 ?_
      refine m_get (v := .ref (M + 1)) (n := 52) hC hD gf_X8_16 dX8_setBonus_49 rfl ?_
      refine g_iload_n (n := 53) hC rfl dX8_setBonus_52 ?_
      refine g_iload_n (n := 54) hC rfl dX8_setBonus_53 ?_
      refine m_st4 (f := (ar 4)) (n := 55) hC hD p0 dX8_setBonus_54 (rfl) (by omega) rfl ?_
      refine g_iload_n (n := 56) hC rfl dX8_setBonus_55 ?_
      exact g_iret hC dX8_setBonus_56 (⟨rfl, rfl, (Or.inr (Or.inr ⟨p0, x0, hp1, hx1, rfl, rfl, rfl, rfl⟩))⟩)
    ·
      refine g_iconst (n := 25) (v := (nI 2)) hC (by decide) dX8_setBonus_24 ?_
      refine g_goto (n := 29) hC dX8_setBonus_25 ?_
      refine m_put0 (n := 32) hC hD gp_X8_73 dX8_setBonus_29 ?_
      refine g_aload_n (n := 33) hC rfl dX8_setBonus_32 ?_
      refine m_get (v := .int (nI 2)) (n := 36) hC hD gf_X8_73 dX8_setBonus_33 rfl ?_
      refine g_if_le (n := 39) (tgt := 41) hC dX8_setBonus_36 (fun h9 => absurd h9 (by decide)) (fun _ => ?_)
      refine g_iconst (n := 40) (v := (nI 0)) hC (by decide) dX8_setBonus_39 ?_
      exact g_iret hC dX8_setBonus_40 (⟨rfl, rfl, (Or.inr (Or.inl ⟨⟨p0, hp0, hp1, rfl⟩, h21, rfl, rfl⟩))⟩)
  ·
    refine g_iconst (n := 11) (v := (nI 1)) hC (by decide) dX8_setBonus_10 ?_
    refine g_goto (n := 29) hC dX8_setBonus_11 ?_
    refine m_put0 (n := 32) hC hD gp_X8_73 dX8_setBonus_29 ?_
    refine g_aload_n (n := 33) hC rfl dX8_setBonus_32 ?_
    refine m_get (v := .int (nI 1)) (n := 36) hC hD gf_X8_73 dX8_setBonus_33 rfl ?_
    refine g_if_le (n := 39) (tgt := 41) hC dX8_setBonus_36 (fun h9 => absurd h9 (by decide)) (fun _ => ?_)
    refine g_iconst (n := 40) (v := (nI 0)) hC (by decide) dX8_setBonus_39 ?_
    exact g_iret hC dX8_setBonus_40 (⟨rfl, rfl, (Or.inl ⟨h7, rfl, rfl⟩)⟩)

set_option maxRecDepth 20000 in
theorem M_cell (K : GK) {M : Nat} {sc : Nat → Int32} {ar : Nat → Nat → Int32} {σ0 : GS} {L : List Nat} {z : Nat} (hD : mdom M L) {w h : Nat} (hB : mB sc w h) {c y : Int32} : gM K yX8_cell cX8_cell 3 (some .int) 1 0 0 [.ref M, .int c, .int y] z L (mdl K M sc ar σ0) (fun r z1 L1 σ2 => z1 = z ∧ L1 = L ∧ ((¬ (inR 0 (w - 1) c ∧ inR 0 (h - 1) y) ∧ r = some (.int (nI 0)) ∧ σ2 = mdl K M (va_up sc 0 (nI 1)) ar σ0) ∨ (∃ c0 y0, c0 ≤ w - 1 ∧ y0 ≤ h - 1 ∧ c = nI c0 ∧ y = nI y0 ∧ r = some (.int (ar 5 (y0 * w + c0))) ∧ σ2 = mdl K M (va_up sc 0 (nI 0)) ar σ0))) := by
  obtain ⟨hw, hh, hw1, hw2, hh1, hh2⟩ := id hB
  have hn : w * h ≤ 49 := Nat.mul_le_mul hw2 hh2
  have hn1 : 16 ≤ w * h := Nat.mul_le_mul hw1 hh1
  refine g_intro [some (.ref M), some (.int c), some (.int y)] (fun Γ hC => ?_) (by simp [g_en, lv_args, Value.category])
  refine g_aload_n (n := 1) hC rfl dX8_cell_0 ?_
  refine g_iload_n (n := 2) hC rfl dX8_cell_1 ?_
  refine g_iconst (n := 3) (v := (nI 0)) hC (by decide) dX8_cell_2 ?_
  refine g_aload_n (n := 4) hC rfl dX8_cell_3 ?_
  refine m_get (v := .int (nI w)) (n := 7) hC hD gf_X8_9 dX8_cell_4 (congrArg (fun x => some (Value.int x)) (hw)) ?_
  refine g_iconst (n := 8) (v := (nI 1)) hC (by decide) dX8_cell_7 ?_
  refine g_isubN (n := 9) hC (by omega) dX8_cell_8 ?_
  refine g_cS (n := 12) hC gs_X8_80 (M_isInN K hD 0 (w - 1) (by omega) (by omega)) dX8_cell_9 ?_
  refine g_ifb_eq (n := 15) (tgt := 33) hC dX8_cell_12 (fun h12 => ?_) (fun h12 => ?_)
  ·
    refine g_iconst (n := 34) (v := (nI 1)) hC (by decide) dX8_cell_33 ?_
    refine m_put0 (n := 37) hC hD gp_X8_73 dX8_cell_34 ?_
    refine g_aload_n (n := 38) hC rfl dX8_cell_37 ?_
    refine m_get (v := .int (nI 1)) (n := 41) hC hD gf_X8_73 dX8_cell_38 rfl ?_
    refine g_if_ne (n := 44) (tgt := 60) hC dX8_cell_41 (fun _ => ?_) (fun h9 => absurd h9 (by decide))
    refine g_iconst (n := 61) (v := (nI 0)) hC (by decide) dX8_cell_60 ?_
    exact g_iret hC dX8_cell_61 (⟨rfl, rfl, (Or.inl ⟨fun q => h12 q.1, rfl, rfl⟩)⟩)
  ·
    obtain ⟨c0, hc0, hc1, rfl⟩ := h12
    refine g_iload_n (n := 16) hC rfl dX8_cell_15 ?_
    refine g_iconst (n := 17) (v := (nI 0)) hC (by decide) dX8_cell_16 ?_
    refine g_aload_n (n := 18) hC rfl dX8_cell_17 ?_
    refine m_get (v := .int (nI h)) (n := 21) hC hD gf_X8_13 dX8_cell_18 (congrArg (fun x => some (Value.int x)) (hh)) ?_
    refine g_iconst (n := 22) (v := (nI 1)) hC (by decide) dX8_cell_21 ?_
    refine g_isubN (n := 23) hC (by omega) dX8_cell_22 ?_
    refine g_cS (n := 26) hC gs_X8_80 (M_isInN K hD 0 (h - 1) (by omega) (by omega)) dX8_cell_23 ?_
    refine g_ifb_eq (n := 29) (tgt := 33) hC dX8_cell_26 (fun h26 => ?_) (fun h26 => ?_)
    ·
      refine g_iconst (n := 34) (v := (nI 1)) hC (by decide) dX8_cell_33 ?_
      refine m_put0 (n := 37) hC hD gp_X8_73 dX8_cell_34 ?_
      refine g_aload_n (n := 38) hC rfl dX8_cell_37 ?_
      refine m_get (v := .int (nI 1)) (n := 41) hC hD gf_X8_73 dX8_cell_38 rfl ?_
      refine g_if_ne (n := 44) (tgt := 60) hC dX8_cell_41 (fun _ => ?_) (fun h9 => absurd h9 (by decide))
      refine g_iconst (n := 61) (v := (nI 0)) hC (by decide) dX8_cell_60 ?_
      exact g_iret hC dX8_cell_61 (⟨rfl, rfl, (Or.inl ⟨fun q => h26 q.2, rfl, rfl⟩)⟩)
    ·
      obtain ⟨y0, hy0, hy1, rfl⟩ := h26
      refine g_iconst (n := 30) (v := (nI 0)) hC (by decide) dX8_cell_29 ?_
      refine g_goto (n := 34) hC dX8_cell_30 ?_
      refine m_put0 (n := 37) hC hD gp_X8_73 dX8_cell_34 ?_
      refine g_aload_n (n := 38) hC rfl dX8_cell_37 ?_
      refine m_get (v := .int (nI 0)) (n := 41) hC hD gf_X8_73 dX8_cell_38 rfl ?_
      refine g_if_ne (n := 44) (tgt := 60) hC dX8_cell_41 (fun h9 => absurd h9 (by decide)) (fun _ => ?_)
      refine g_aload_n (n := 45) hC rfl dX8_cell_44 ?_
      refine m_get (v := .ref (M + 2)) (n := 48) hC hD gf_X8_20 dX8_cell_45 rfl ?_
      refine g_iload_n (n := 49) hC rfl dX8_cell_48 ?_
      refine g_aload_n (n := 50) hC rfl dX8_cell_49 ?_
      refine m_get (v := .int (nI w)) (n := 53) hC hD gf_X8_9 dX8_cell_50 (congrArg (fun x => some (Value.int x)) (hw)) ?_
      refine g_imulN (n := 54) hC dX8_cell_53 ?_
      refine g_iload_n (n := 55) hC rfl dX8_cell_54 ?_
      refine g_iaddN (n := 56) hC dX8_cell_55 ?_
      refine m_ld5 (x := ((ar 5) ((y0 * w) + c0))) (n := 57) hC hD ((y0 * w) + c0) dX8_cell_56 (rfl) (by have := Nat.mul_le_mul_right w (show y0 + 1 ≤ h by omega); rw [Nat.succ_mul, Nat.mul_comm h w] at this; omega) (rfl) ?_
      refine g_goto (n := 61) hC dX8_cell_57 ?_
      exact g_iret hC dX8_cell_61 (⟨rfl, rfl, (Or.inr ⟨c0, y0, hc1, hy1, rfl, rfl, rfl, rfl⟩)⟩)

set_option maxRecDepth 20000 in
theorem M_since (K : GK) {M : Nat} {sc : Nat → Int32} {ar : Nat → Nat → Int32} {σ0 : GS} {L : List Nat} {z : Nat} (hD : mdom M L) {w h : Nat} (hB : mB sc w h) {c x : Int32} : gM K yX8_since cX8_since 3 (some .int) 2 0 0 [.ref M, .int c, .int x] z L (mdl K M sc ar σ0) (fun r z1 L1 σ2 => z1 = z ∧ L1 = L ∧ ((¬ inN (w * h) c ∧ r = some (.int (nI 0)) ∧ σ2 = mdl K M (va_up sc 0 (nI 1)) ar σ0) ∨ (inN (w * h) c ∧ ¬ inR 0 1 x ∧ r = some (.int (nI 0)) ∧ σ2 = mdl K M (va_up sc 0 (nI 2)) ar σ0) ∨ (∃ c0 x0, c0 < w * h ∧ x0 ≤ 1 ∧ c = nI c0 ∧ x = nI x0 ∧ r = some (.int (ar 5 ((if x0 = 0 then 49 else 98) + c0))) ∧ σ2 = mdl K M (va_up sc 0 (nI 0)) ar σ0))) := by
  obtain ⟨hw, hh, hw1, hw2, hh1, hh2⟩ := id hB
  have hn : w * h ≤ 49 := Nat.mul_le_mul hw2 hh2
  have hn1 : 16 ≤ w * h := Nat.mul_le_mul hw1 hh1
  refine g_intro [some (.ref M), some (.int c), some (.int x)] (fun Γ hC => ?_) (by simp [g_en, lv_args, Value.category])
  refine g_aload_n (n := 1) hC rfl dX8_since_0 ?_
  refine g_aload_n (n := 2) hC rfl dX8_since_1 ?_
  refine g_iload_n (n := 3) hC rfl dX8_since_2 ?_
  refine g_cV (n := 6) hC gv_X8_150 (hD 0 (by decide)) mdl_0 (M_isCellN K hD hB) dX8_since_3 ?_
  refine g_ifb_ne (n := 9) (tgt := 13) hC dX8_since_6 (fun h6 => ?_) (fun h6 => ?_)
  ·
    obtain ⟨c0, hc1, rfl⟩ := h6
    refine g_iload_n (n := 14) hC rfl dX8_since_13 ?_
    refine g_iconst (n := 15) (v := (nI 0)) hC (by decide) dX8_since_14 ?_
    refine g_iconst (n := 16) (v := (nI 1)) hC (by decide) dX8_since_15 ?_
    refine g_cS (n := 19) hC gs_X8_80 (M_isInN K hD 0 1 (by omega) (by omega)) dX8_since_16 ?_
    refine g_ifb_ne (n := 22) (tgt := 26) hC dX8_since_19 (fun h19 => ?_) (fun h19 => ?_)
    ·
      obtain ⟨x0, hx0, hx1, rfl⟩ := h19
      refine g_iconst (n := 27) (v := (nI 0)) hC (by decide) dX8_since_26 ?_
      refine m_put0 (n := 30) hC hD gp_X8_73 dX8_since_27 ?_
      refine g_aload_n (n := 31) hC rfl dX8_since_30 ?_
      refine m_get (v := .int (nI 0)) (n := 34) hC hD gf_X8_73 dX8_since_31 rfl ?_
      refine g_if_ne (n := 37) (tgt := 58) hC dX8_since_34 (fun h9 => absurd h9 (by decide)) (fun _ => ?_)
      refine g_aload_n (n := 38) hC rfl dX8_since_37 ?_
      refine m_get (v := .ref (M + 2)) (n := 41) hC hD gf_X8_20 dX8_since_38 rfl ?_
      refine g_iload_n (n := 42) hC rfl dX8_since_41 ?_
      refine g_if_neN (n := 45) (tgt := 50) hC (by omega) dX8_since_42 (fun h42 => ?_) (fun h42 => ?_)
      ·
        refine g_bipush (n := 52) (v := (nI 98)) hC (by decide) dX8_since_50 ?_
        refine g_iload_n (n := 53) hC rfl dX8_since_52 ?_
        refine g_iaddN (n := 54) hC dX8_since_53 ?_
        refine m_ld5 (x := ((ar 5) (98 + c0))) (n := 55) hC hD (98 + c0) dX8_since_54 (rfl) (by omega) (rfl) ?_
        refine g_goto (n := 59) hC dX8_since_55 ?_
        exact g_iret hC dX8_since_59 (⟨rfl, rfl, (Or.inr (Or.inr ⟨c0, x0, hc1, hx1, rfl, rfl, by rw [if_neg h42], rfl⟩))⟩)
      ·
        refine g_bipush (n := 47) (v := (nI 49)) hC (by decide) dX8_since_45 ?_
        refine g_goto (n := 52) hC dX8_since_47 ?_
        refine g_iload_n (n := 53) hC rfl dX8_since_52 ?_
        refine g_iaddN (n := 54) hC dX8_since_53 ?_
        refine m_ld5 (x := ((ar 5) (49 + c0))) (n := 55) hC hD (49 + c0) dX8_since_54 (rfl) (by omega) (rfl) ?_
        refine g_goto (n := 59) hC dX8_since_55 ?_
        exact g_iret hC dX8_since_59 (⟨rfl, rfl, (Or.inr (Or.inr ⟨c0, x0, hc1, hx1, rfl, rfl, by rw [if_pos h42], rfl⟩))⟩)
    ·
      refine g_iconst (n := 23) (v := (nI 2)) hC (by decide) dX8_since_22 ?_
      refine g_goto (n := 27) hC dX8_since_23 ?_
      refine m_put0 (n := 30) hC hD gp_X8_73 dX8_since_27 ?_
      refine g_aload_n (n := 31) hC rfl dX8_since_30 ?_
      refine m_get (v := .int (nI 2)) (n := 34) hC hD gf_X8_73 dX8_since_31 rfl ?_
      refine g_if_ne (n := 37) (tgt := 58) hC dX8_since_34 (fun _ => ?_) (fun h9 => absurd h9 (by decide))
      refine g_iconst (n := 59) (v := (nI 0)) hC (by decide) dX8_since_58 ?_
      exact g_iret hC dX8_since_59 (⟨rfl, rfl, (Or.inr (Or.inl ⟨⟨c0, hc1, rfl⟩, h19, rfl, rfl⟩))⟩)
  ·
    refine g_iconst (n := 10) (v := (nI 1)) hC (by decide) dX8_since_9 ?_
    refine g_goto (n := 27) hC dX8_since_10 ?_
    refine m_put0 (n := 30) hC hD gp_X8_73 dX8_since_27 ?_
    refine g_aload_n (n := 31) hC rfl dX8_since_30 ?_
    refine m_get (v := .int (nI 1)) (n := 34) hC hD gf_X8_73 dX8_since_31 rfl ?_
    refine g_if_ne (n := 37) (tgt := 58) hC dX8_since_34 (fun _ => ?_) (fun h9 => absurd h9 (by decide))
    refine g_iconst (n := 59) (v := (nI 0)) hC (by decide) dX8_since_58 ?_
    exact g_iret hC dX8_since_59 (⟨rfl, rfl, (Or.inl ⟨h6, rfl, rfl⟩)⟩)

def ctF (f : Nat → Int32) (w h x : Nat) : Int32 := if x = 0 then f 153 else if x = 1 then nI w else if x = 2 then nI h else if x = 3 then nI (mny f (w * h) (nI 0)) else if x = 4 then nI (mny f (w * h) (nI 5)) else if x = 5 then f 151 else f 152

set_option maxRecDepth 20000 in
theorem M_count (K : GK) {M : Nat} {sc : Nat → Int32} {ar : Nat → Nat → Int32} {σ0 : GS} {L : List Nat} {z : Nat} (hD : mdom M L) {w h : Nat} (hB : mB sc w h) {x : Int32} : gM K yX8_count cX8_count 2 (some .int) 4 0 0 [.ref M, .int x] z L (mdl K M sc ar σ0) (fun r z1 L1 σ2 => z1 = z ∧ L1 = L ∧ ((¬ inR 0 6 x ∧ r = some (.int (nI 0)) ∧ σ2 = mdl K M (va_up sc 0 (nI 1)) ar σ0) ∨ (∃ x0, x0 ≤ 6 ∧ x = nI x0 ∧ r = some (.int (ctF (ar 5) w h x0)) ∧ σ2 = mdl K M (va_up sc 0 (nI 0)) ar σ0))) := by
  obtain ⟨hw, hh, hw1, hw2, hh1, hh2⟩ := id hB
  have hn : w * h ≤ 49 := Nat.mul_le_mul hw2 hh2
  have hn1 : 16 ≤ w * h := Nat.mul_le_mul hw1 hh1
  refine g_intro [some (.ref M), some (.int x)] (fun Γ hC => ?_) (by simp [g_en, lv_args, Value.category])
  refine g_aload_n (n := 1) hC rfl dX8_count_0 ?_
  refine g_iload_n (n := 2) hC rfl dX8_count_1 ?_
  refine g_iconst (n := 3) (v := (nI 0)) hC (by decide) dX8_count_2 ?_
  refine g_bipush (n := 5) (v := (nI 6)) hC (by decide) dX8_count_3 ?_
  refine g_cS (n := 8) hC gs_X8_80 (M_isInN K hD 0 6 (by omega) (by omega)) dX8_count_5 ?_
  refine g_ifb_eq (n := 11) (tgt := 15) hC dX8_count_8 (fun h8 => ?_) (fun h8 => ?_)
  ·
    refine g_iconst (n := 16) (v := (nI 1)) hC (by decide) dX8_count_15 ?_
    refine m_put0 (n := 19) hC hD gp_X8_73 dX8_count_16 ?_
    refine g_aload_n (n := 20) hC rfl dX8_count_19 ?_
    refine m_get (v := .int (nI 1)) (n := 23) hC hD gf_X8_73 dX8_count_20 rfl ?_
    refine g_iconst (n := 24) (v := (nI 1)) hC (by decide) dX8_count_23 ?_
    refine g_icmp_neN (n := 27) (tgt := 29) hC (by decide) (by decide) dX8_count_24 (fun h9 => absurd h9 (by decide)) (fun _ => ?_)
    refine g_iconst (n := 28) (v := (nI 0)) hC (by decide) dX8_count_27 ?_
    exact g_iret hC dX8_count_28 (⟨rfl, rfl, (Or.inl ⟨h8, rfl, rfl⟩)⟩)
  ·
    obtain ⟨x0, hx0, hx1, rfl⟩ := h8
    refine g_iconst (n := 12) (v := (nI 0)) hC (by decide) dX8_count_11 ?_
    refine g_goto (n := 16) hC dX8_count_12 ?_
    refine m_put0 (n := 19) hC hD gp_X8_73 dX8_count_16 ?_
    refine g_aload_n (n := 20) hC rfl dX8_count_19 ?_
    refine m_get (v := .int (nI 0)) (n := 23) hC hD gf_X8_73 dX8_count_20 rfl ?_
    refine g_iconst (n := 24) (v := (nI 1)) hC (by decide) dX8_count_23 ?_
    refine g_icmp_neN (n := 27) (tgt := 29) hC (by decide) (by decide) dX8_count_24 (fun _ => ?_) (fun h9 => absurd h9 (by decide))
    refine g_iload_n (n := 30) hC rfl dX8_count_29 ?_
    refine g_tsw (n := 107) hC dX8_count_30 (by decide) (fun j9 hj9 e9 tgt9 ht9 => ?_) (fun ho9 => ?_)
    · match j9, hj9 with
      | 0, _ =>
        obtain rfl : tgt9 = 68 := by revert ht9; show _ = (_ : Int) → _; intro ht9; exact (by have h8 := ht9; simp at h8; omega)
        obtain rfl : x0 = 0 := (nI_eq (by omega) (by omega)).mp e9
        refine g_aload_n (n := 69) hC rfl dX8_count_68 ?_
        refine m_get (v := .ref (M + 2)) (n := 72) hC hD gf_X8_20 dX8_count_69 rfl ?_
        refine g_sipush (n := 75) (v := (nI 153)) hC (by decide) dX8_count_72 ?_
        refine m_ld5 (x := ((ar 5) 153)) (n := 76) hC hD 153 dX8_count_75 (rfl) (by omega) (rfl) ?_
        exact g_iret hC dX8_count_76 (⟨rfl, rfl, (Or.inr ⟨_, hx1, rfl, rfl, rfl⟩)⟩)
      | 1, _ =>
        obtain rfl : tgt9 = 77 := by revert ht9; show _ = (_ : Int) → _; intro ht9; exact (by have h8 := ht9; simp at h8; omega)
        obtain rfl : x0 = 1 := (nI_eq (by omega) (by omega)).mp e9
        refine g_aload_n (n := 78) hC rfl dX8_count_77 ?_
        refine m_get (v := .int (nI w)) (n := 81) hC hD gf_X8_9 dX8_count_78 (congrArg (fun x => some (Value.int x)) (hw)) ?_
        exact g_iret hC dX8_count_81 (⟨rfl, rfl, (Or.inr ⟨_, hx1, rfl, rfl, rfl⟩)⟩)
      | 2, _ =>
        obtain rfl : tgt9 = 82 := by revert ht9; show _ = (_ : Int) → _; intro ht9; exact (by have h8 := ht9; simp at h8; omega)
        obtain rfl : x0 = 2 := (nI_eq (by omega) (by omega)).mp e9
        refine g_aload_n (n := 83) hC rfl dX8_count_82 ?_
        refine m_get (v := .int (nI h)) (n := 86) hC hD gf_X8_13 dX8_count_83 (congrArg (fun x => some (Value.int x)) (hh)) ?_
        exact g_iret hC dX8_count_86 (⟨rfl, rfl, (Or.inr ⟨_, hx1, rfl, rfl, rfl⟩)⟩)
      | 3, _ =>
        obtain rfl : tgt9 = 87 := by revert ht9; show _ = (_ : Int) → _; intro ht9; exact (by have h8 := ht9; simp at h8; omega)
        obtain rfl : x0 = 3 := (nI_eq (by omega) (by omega)).mp e9
        refine g_aload_n (n := 88) hC rfl dX8_count_87 ?_
        refine g_cV (n := 91) hC gv_X8_108 (hD 0 (by decide)) mdl_0 (M_emptyCells K hD (show mB (va_up sc 0 (nI 0)) w h from hB)) dX8_count_88 ?_
        exact g_iret hC dX8_count_91 (⟨rfl, rfl, (Or.inr ⟨_, hx1, rfl, rfl, rfl⟩)⟩)
      | 4, _ =>
        obtain rfl : tgt9 = 92 := by revert ht9; show _ = (_ : Int) → _; intro ht9; exact (by have h8 := ht9; simp at h8; omega)
        obtain rfl : x0 = 4 := (nI_eq (by omega) (by omega)).mp e9
        refine g_aload_n (n := 93) hC rfl dX8_count_92 ?_
        refine g_iconst (n := 94) (v := (nI 5)) hC (by decide) dX8_count_93 ?_
        refine g_cV (n := 97) hC gv_X8_84 (hD 0 (by decide)) mdl_0 (M_many K hD (show mB (va_up sc 0 (nI 0)) w h from hB)) dX8_count_94 ?_
        exact g_iret hC dX8_count_97 (⟨rfl, rfl, (Or.inr ⟨_, hx1, rfl, rfl, rfl⟩)⟩)
      | 5, _ =>
        obtain rfl : tgt9 = 98 := by revert ht9; show _ = (_ : Int) → _; intro ht9; exact (by have h8 := ht9; simp at h8; omega)
        obtain rfl : x0 = 5 := (nI_eq (by omega) (by omega)).mp e9
        refine g_aload_n (n := 99) hC rfl dX8_count_98 ?_
        refine m_get (v := .ref (M + 2)) (n := 102) hC hD gf_X8_20 dX8_count_99 rfl ?_
        refine g_sipush (n := 105) (v := (nI 151)) hC (by decide) dX8_count_102 ?_
        refine m_ld5 (x := ((ar 5) 151)) (n := 106) hC hD 151 dX8_count_105 (rfl) (by omega) (rfl) ?_
        exact g_iret hC dX8_count_106 (⟨rfl, rfl, (Or.inr ⟨_, hx1, rfl, rfl, rfl⟩)⟩)
      | j + 6, hj => exact absurd hj (by simp)
    ·
      obtain rfl : x0 = 6 := by
        rcases Nat.lt_or_ge x0 6 with q | q
        · exact absurd rfl (ho9 x0 q)
        · omega
      refine g_aload_n (n := 108) hC rfl dX8_count_107 ?_
      refine m_get (v := .ref (M + 2)) (n := 111) hC hD gf_X8_20 dX8_count_108 rfl ?_
      refine g_sipush (n := 114) (v := (nI 152)) hC (by decide) dX8_count_111 ?_
      refine m_ld5 (x := ((ar 5) 152)) (n := 115) hC hD 152 dX8_count_114 (rfl) (by omega) (rfl) ?_
      exact g_iret hC dX8_count_115 (⟨rfl, rfl, (Or.inr ⟨_, hx1, rfl, rfl, rfl⟩)⟩)
