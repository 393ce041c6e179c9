set_option maxRecDepth 20000 in
theorem M_begins (K : GK) {M : Nat} {sc : Nat → Int32} {ar : Nat → Nat → Int32} {σ0 : GS} {L : List Nat} {z : Nat} (hD : mdom M L) {w h : Nat} (hB : mB sc w h) {k : Nat} (hk : k ≤ 4) : gT K yX8_begins cX8_begins 5 none 0 [.ref M, .int (nI k)] z L (mdl K M sc ar σ0) none (mdl K M sc (va_up ar 5 (bgF w h (ar 5) k)) σ0) := by
  obtain ⟨hw, hh, hw1, hw2, hh1, hh2⟩ := id hB
  have hn : w * h ≤ 49 := Nat.mul_le_mul hw2 hh2
  have hn1 : 16 ≤ w * h := Nat.mul_le_mul hw1 hh1
  refine g_intro [some (.ref M), some (.int (nI k)), none, none, none] (fun Γ hC => ?_) (by simp [g_en, lv_args, Value.category])
  have lp41 : ∀ (n9 : Nat) (c : Nat) (hc : c ≤ k) (y2 : Int32) (ey2 : y2 = (nI c)) (hm9 : k - c < n9), G K Γ (z, 0, 0, L) (mdl K M sc (va_up ar 5 (bgF w h (ar 5) c)) σ0) 41 [some (.ref M), some (.int (nI k)), some (.int y2), none, none] [] := by
    intro n9
    induction n9 with
    | zero =>
      intro c hc y2 ey2 hm9
      exact absurd hm9 (Nat.not_lt_zero _)
    | succ n9 ih41 =>
      intro c hc y2 ey2 hm9
      subst ey2
      refine g_iload_n (n := 42) hC rfl dX8_begins_41 ?_
      refine g_iload_n (n := 43) hC rfl dX8_begins_42 ?_
      refine g_icmp_geN (n := 46) (tgt := 108) hC (by omega) (by omega) dX8_begins_43 (fun h43 => ?_) (fun h43 => ?_)
      ·
        exact g_vret hC dX8_begins_108 (⟨rfl, rfl, rfl, (by rw [show c = k by omega])⟩)
      ·
        have lp65 : ∀ (ys0 : Int32) (eys0 : ys0 = (nI (hcR h c))), G K Γ (z, 0, 0, L) (mdl K M sc (va_up ar 5 (bgF w h (ar 5) c)) σ0) 65 [some (.ref M), some (.int (nI k)), some (.int (nI c)), none, none] [.int ys0] := by
          intro ys0 eys0
          subst eys0
          refine g_istore_n (n := 66) (ll1 := [some (.ref M), some (.int (nI k)), some (.int (nI c)), some (.int (nI (hcR h c))), none]) hC dX8_begins_65 rfl ?_
          have lp85 : ∀ (ys0 : Int32) (eys0 : ys0 = (nI (hcK w c))), G K Γ (z, 0, 0, L) (mdl K M sc (va_up ar 5 (bgF w h (ar 5) c)) σ0) 85 [some (.ref M), some (.int (nI k)), some (.int (nI c)), some (.int (nI (hcR h c))), none] [.int ys0] := by
            intro ys0 eys0
            subst eys0
            refine g_istore (n := 87) (ll1 := [some (.ref M), some (.int (nI k)), some (.int (nI c)), some (.int (nI (hcR h c))), some (.int (nI (hcK w c)))]) hC dX8_begins_85 rfl ?_
            refine g_aload_n (n := 88) hC rfl dX8_begins_87 ?_
            refine m_get (v := .ref (M + 2)) (n := 91) hC hD gf_X8_20 dX8_begins_88 rfl ?_
            refine g_iload_n (n := 92) hC rfl dX8_begins_91 ?_
            refine g_aload_n (n := 93) hC rfl dX8_begins_92 ?_
            refine m_get (v := .int (nI w)) (n := 96) hC hD gf_X8_9 dX8_begins_93 (congrArg (fun x => some (Value.int x)) (hw)) ?_
            refine g_imulN (n := 97) hC dX8_begins_96 ?_
            refine g_iload (n := 99) hC rfl dX8_begins_97 ?_
            refine g_iaddN (n := 100) hC dX8_begins_99 ?_
            refine g_iconst (n := 101) (v := (nI 2)) hC (by decide) dX8_begins_100 ?_
            refine m_st5 (f := (bgF w h (ar 5) c)) (n := 102) hC hD (((hcR h c) * w) + (hcK w c)) dX8_begins_101 (rfl) (by have := hcC_lt (w := w) (h := h) (i := c) hw1 hh1; rw [hcC] at this; omega) rfl ?_
            refine G.eqs mdl_uu ?_
            refine g_iinc (n := 105) (ll1 := [some (.ref M), some (.int (nI k)), some (.int (nI (c + 1))), some (.int (nI (hcR h c))), some (.int (nI (hcK w c)))]) hC dX8_begins_102 rfl (nI_inc _) rfl ?_
            refine g_goto (n := 41) hC dX8_begins_105 ?_
            refine G.eqs (show _ = mdl K M sc (va_up ar 5 (bgF w h (ar 5) (c + 1))) σ0 from rfl) ?_
            exact G.le (ih41 (c + 1) (by omega) _ (by first | rfl | (simp [*]; done)) (by omega)) (And.intro rfl (And.intro rfl (And.intro rfl (trivial))))
          refine g_iload_n (n := 67) hC rfl dX8_begins_66 ?_
          refine g_if_eqN (n := 70) (tgt := 75) hC (by omega) dX8_begins_67 (fun h67 => ?_) (fun h67 => ?_)
          ·
            refine g_iconst (n := 76) (v := (nI 1)) hC (by decide) dX8_begins_75 ?_
            refine g_goto (n := 85) hC dX8_begins_76 ?_
            exact lp85  _ (by rw [hcK, if_pos (Or.inl h67)])
          ·
            refine g_iload_n (n := 71) hC rfl dX8_begins_70 ?_
            refine g_iconst (n := 72) (v := (nI 3)) hC (by decide) dX8_begins_71 ?_
            refine g_icmp_neN (n := 75) (tgt := 79) hC (by omega) (by omega) dX8_begins_72 (fun h72 => ?_) (fun h72 => ?_)
            ·
              refine g_aload_n (n := 80) hC rfl dX8_begins_79 ?_
              refine m_get (v := .int (nI w)) (n := 83) hC hD gf_X8_9 dX8_begins_80 (congrArg (fun x => some (Value.int x)) (hw)) ?_
              refine g_iconst (n := 84) (v := (nI 2)) hC (by decide) dX8_begins_83 ?_
              refine g_isubN (n := 85) hC (by omega) dX8_begins_84 ?_
              exact lp85  _ (by rw [hcK, if_neg (fun q => q.elim h67 h72)])
            ·
              refine g_iconst (n := 76) (v := (nI 1)) hC (by decide) dX8_begins_75 ?_
              refine g_goto (n := 85) hC dX8_begins_76 ?_
              exact lp85  _ (by rw [hcK, if_pos (Or.inr h72)])
        refine g_iload_n (n := 47) hC rfl dX8_begins_46 ?_
        refine g_if_eqN (n := 50) (tgt := 55) hC (by omega) dX8_begins_47 (fun h47 => ?_) (fun h47 => ?_)
        ·
          refine g_iconst (n := 56) (v := (nI 1)) hC (by decide) dX8_begins_55 ?_
          refine g_goto (n := 65) hC dX8_begins_56 ?_
          exact lp65  _ (by rw [hcR, if_pos (Or.inl h47)])
        ·
          refine g_iload_n (n := 51) hC rfl dX8_begins_50 ?_
          refine g_iconst (n := 52) (v := (nI 2)) hC (by decide) dX8_begins_51 ?_
          refine g_icmp_neN (n := 55) (tgt := 59) hC (by omega) (by omega) dX8_begins_52 (fun h52 => ?_) (fun h52 => ?_)
          ·
            refine g_aload_n (n := 60) hC rfl dX8_begins_59 ?_
            refine m_get (v := .int (nI h)) (n := 63) hC hD gf_X8_13 dX8_begins_60 (congrArg (fun x => some (Value.int x)) (hh)) ?_
            refine g_iconst (n := 64) (v := (nI 2)) hC (by decide) dX8_begins_63 ?_
            refine g_isubN (n := 65) hC (by omega) dX8_begins_64 ?_
            exact lp65  _ (by rw [hcR, if_neg (fun q => q.elim h47 h52)])
          ·
            refine g_iconst (n := 56) (v := (nI 1)) hC (by decide) dX8_begins_55 ?_
            refine g_goto (n := 65) hC dX8_begins_56 ?_
            exact lp65  _ (by rw [hcR, if_pos (Or.inr h52)])
  refine g_iconst (n := 1) (v := (nI 0)) hC (by decide) dX8_begins_0 ?_
  refine g_istore_n (n := 2) (ll1 := [some (.ref M), some (.int (nI k)), some (.int (nI 0)), none, none]) hC dX8_begins_1 rfl ?_
  have lp2 : ∀ (n9 : Nat) (c : Nat) (hc : c ≤ 155) (y2 : Int32) (ey2 : y2 = (nI c)) (hm9 : 155 - c < n9), G K Γ (z, 0, 0, L) (mdl K M sc (va_up ar 5 (bgP (ar 5) c)) σ0) 2 [some (.ref M), some (.int (nI k)), some (.int y2), none, none] [] := by
    intro n9
    induction n9 with
    | zero =>
      intro c hc y2 ey2 hm9
      exact absurd hm9 (Nat.not_lt_zero _)
    | succ n9 ih2 =>
      intro c hc y2 ey2 hm9
      subst ey2
      refine g_iload_n (n := 3) hC rfl dX8_begins_2 ?_
      refine g_sipush (n := 6) (v := (nI 155)) hC (by decide) dX8_begins_3 ?_
      refine g_icmp_geN (n := 9) (tgt := 39) hC (by omega) (by omega) dX8_begins_6 (fun h6 => ?_) (fun h6 => ?_)
      ·
        refine g_iconst (n := 40) (v := (nI 0)) hC (by decide) dX8_begins_39 ?_
        refine g_istore_n (n := 41) (ll1 := [some (.ref M), some (.int (nI k)), some (.int (nI 0)), none, none]) hC dX8_begins_40 rfl ?_
        refine G.eqs (show _ = mdl K M sc (va_up ar 5 (bgF w h (ar 5) 0)) σ0 from (by rw [show c = 155 by omega, bgP_n]; rfl)) ?_
        exact lp41 _ 0 (by omega) _ (by first | rfl | (simp [*]; done)) (Nat.lt_succ_self _)
      ·
        refine g_aload_n (n := 10) hC rfl dX8_begins_9 ?_
        refine m_get (v := .ref (M + 2)) (n := 13) hC hD gf_X8_20 dX8_begins_10 rfl ?_
        refine g_iload_n (n := 14) hC rfl dX8_begins_13 ?_
        refine g_iload_n (n := 15) hC rfl dX8_begins_14 ?_
        refine g_bipush (n := 17) (v := (nI 49)) hC (by decide) dX8_begins_15 ?_
        refine g_icmp_ltN (n := 20) (tgt := 31) hC (by omega) (by omega) dX8_begins_17 (fun h17 => ?_) (fun h17 => ?_)
        ·
          refine g_iconst (n := 32) (v := (nI 0)) hC (by decide) dX8_begins_31 ?_
          refine m_st5 (f := (bgP (ar 5) c)) (n := 33) hC hD c dX8_begins_32 (rfl) (by omega) rfl ?_
          refine G.eqs mdl_uu ?_
          refine g_iinc (n := 36) (ll1 := [some (.ref M), some (.int (nI k)), some (.int (nI (c + 1))), none, none]) hC dX8_begins_33 rfl (nI_inc _) rfl ?_
          refine g_goto (n := 2) hC dX8_begins_36 ?_
          refine G.eqs (show _ = mdl K M sc (va_up ar 5 (bgP (ar 5) (c + 1))) σ0 from (by rw [bgP_s _ _ _ (by rw [if_neg (by omega)])])) ?_
          exact ih2 (c + 1) (by omega) _ (by first | rfl | (simp [*]; done)) (by omega)
        ·
          refine g_iload_n (n := 21) hC rfl dX8_begins_20 ?_
          refine g_sipush (n := 24) (v := (nI 147)) hC (by decide) dX8_begins_21 ?_
          refine g_icmp_geN (n := 27) (tgt := 31) hC (by omega) (by omega) dX8_begins_24 (fun h24 => ?_) (fun h24 => ?_)
          ·
            refine g_iconst (n := 32) (v := (nI 0)) hC (by decide) dX8_begins_31 ?_
            refine m_st5 (f := (bgP (ar 5) c)) (n := 33) hC hD c dX8_begins_32 (rfl) (by omega) rfl ?_
            refine G.eqs mdl_uu ?_
            refine g_iinc (n := 36) (ll1 := [some (.ref M), some (.int (nI k)), some (.int (nI (c + 1))), none, none]) hC dX8_begins_33 rfl (nI_inc _) rfl ?_
            refine g_goto (n := 2) hC dX8_begins_36 ?_
            refine G.eqs (show _ = mdl K M sc (va_up ar 5 (bgP (ar 5) (c + 1))) σ0 from (by rw [bgP_s _ _ _ (by rw [if_neg (by omega)])])) ?_
            exact ih2 (c + 1) (by omega) _ (by first | rfl | (simp [*]; done)) (by omega)
          ·
            refine g_iconst (n := 28) (v := (-1)) hC (by decide) dX8_begins_27 ?_
            refine g_goto (n := 32) hC dX8_begins_28 ?_
            refine m_st5 (f := (bgP (ar 5) c)) (n := 33) hC hD c dX8_begins_32 (rfl) (by omega) rfl ?_
            refine G.eqs mdl_uu ?_
            refine g_iinc (n := 36) (ll1 := [some (.ref M), some (.int (nI k)), some (.int (nI (c + 1))), none, none]) hC dX8_begins_33 rfl (nI_inc _) rfl ?_
            refine g_goto (n := 2) hC dX8_begins_36 ?_
            refine G.eqs (show _ = mdl K M sc (va_up ar 5 (bgP (ar 5) (c + 1))) σ0 from (by rw [bgP_s _ _ _ (by rw [if_pos (by omega)])])) ?_
            exact ih2 (c + 1) (by omega) _ (by first | rfl | (simp [*]; done)) (by omega)
  refine G.eqs (show _ = mdl K M sc (va_up ar 5 (bgP (ar 5) 0)) σ0 from (by rw [bgP_0, va_up_same])) ?_
  exact lp2 _ 0 (by omega) _ (by first | rfl | (simp [*]; done)) (Nat.lt_succ_self _)

set_option maxRecDepth 20000 in
theorem M_setRule (K : GK) {M : Nat} {sc : Nat → Int32} {ar : Nat → Nat → Int32} {σ0 : GS} {L : List Nat} {z : Nat} (hD : mdom M L) {w h : Nat} (hB : mB sc w h) {x : Int32} : gM K yX8_setRule cX8_setRule 3 (some .int) 1 0 0 [.ref M, .int x] z L (mdl K M sc ar σ0) (fun r z1 L1 σ2 => z1 = z ∧ L1 = L ∧ ((¬ inR 0 2 x ∧ r = some (.int (nI 0)) ∧ σ2 = mdl K M (va_up sc 0 (nI 1)) ar σ0) ∨ (∃ x0, x0 ≤ 2 ∧ x = nI x0 ∧ r = some (.int (sc 3)) ∧ σ2 = mdl K M (va_up (va_up sc 0 (nI 0)) 3 (nI x0)) ar σ0))) := by
  obtain ⟨hw, hh, hw1, hw2, hh1, hh2⟩ := id hB
  have hn : w * h ≤ 49 := Nat.mul_le_mul hw2 hh2
  have hn1 : 16 ≤ w * h := Nat.mul_le_mul hw1 hh1
  refine g_intro [some (.ref M), some (.int x), none] (fun Γ hC => ?_) (by simp [g_en, lv_args, Value.category])
  refine g_aload_n (n := 1) hC rfl dX8_setRule_0 ?_
  refine g_iload_n (n := 2) hC rfl dX8_setRule_1 ?_
  refine g_iconst (n := 3) (v := (nI 0)) hC (by decide) dX8_setRule_2 ?_
  refine g_iconst (n := 4) (v := (nI 2)) hC (by decide) dX8_setRule_3 ?_
  refine g_cS (n := 7) hC gs_X8_80 (M_isInN K hD 0 2 (by omega) (by omega)) dX8_setRule_4 ?_
  refine g_ifb_eq (n := 10) (tgt := 14) hC dX8_setRule_7 (fun h7 => ?_) (fun h7 => ?_)
  ·
    refine g_iconst (n := 15) (v := (nI 1)) hC (by decide) dX8_setRule_14 ?_
    refine m_put0 (n := 18) hC hD gp_X8_73 dX8_setRule_15 ?_
    refine g_aload_n (n := 19) hC rfl dX8_setRule_18 ?_
    refine m_get (v := .int (nI 1)) (n := 22) hC hD gf_X8_73 dX8_setRule_19 rfl ?_
    refine g_iconst (n := 23) (v := (nI 1)) hC (by decide) dX8_setRule_22 ?_
    refine g_icmp_neN (n := 26) (tgt := 28) hC (by decide) (by decide) dX8_setRule_23 (fun h9 => absurd h9 (by decide)) (fun _ => ?_)
    refine g_iconst (n := 27) (v := (nI 0)) hC (by decide) dX8_setRule_26 ?_
    exact g_iret hC dX8_setRule_27 (⟨rfl, rfl, (Or.inl ⟨h7, rfl, rfl⟩)⟩)
  ·
    obtain ⟨x0, hx0, hx1, rfl⟩ := h7
    refine g_iconst (n := 11) (v := (nI 0)) hC (by decide) dX8_setRule_10 ?_
    refine g_goto (n := 15) hC dX8_setRule_11 ?_
    refine m_put0 (n := 18) hC hD gp_X8_73 dX8_setRule_15 ?_
    refine g_aload_n (n := 19) hC rfl dX8_setRule_18 ?_
    refine m_get (v := .int (nI 0)) (n := 22) hC hD gf_X8_73 dX8_setRule_19 rfl ?_
    refine g_iconst (n := 23) (v := (nI 1)) hC (by decide) dX8_setRule_22 ?_
    refine g_icmp_neN (n := 26) (tgt := 28) hC (by decide) (by decide) dX8_setRule_23 (fun _ => ?_) (fun h9 => absurd h9 (by decide))
    refine g_aload_n (n := 29) hC rfl dX8_setRule_28 ?_
    refine m_get (v := .int (sc 3)) (n := 32) hC hD gf_X8_88 dX8_setRule_29 rfl ?_
    refine g_istore_n (n := 33) (ll1 := [some (.ref M), some (.int (nI x0)), some (.int (sc 3))]) hC dX8_setRule_32 rfl ?_
    refine g_aload_n (n := 34) hC rfl dX8_setRule_33 ?_
    refine g_iload_n (n := 35) hC rfl dX8_setRule_34 ?_
    refine m_put3 (n := 38) hC hD gp_X8_88 dX8_setRule_35 ?_
    refine g_iload_n (n := 39) hC rfl dX8_setRule_38 ?_
    exact g_iret hC dX8_setRule_39 (⟨rfl, rfl, (Or.inr ⟨x0, hx1, rfl, rfl, rfl⟩)⟩)

set_option maxRecDepth 20000 in
theorem M_setBonus (K : GK) {M : Nat} {sc : Nat → Int32} {ar : Nat → Nat → Int32} {σ0 : GS} {L : List Nat} {z : Nat} (hD : mdom M L) {w h : Nat} (hB : mB sc w h) {p x : Int32} : gM K yX8_setBonus cX8_setBonus 4 (some .int) 1 0 0 [.ref M, .int p, .int x] z L (mdl K M sc ar σ0) (fun r z1 L1 σ2 => z1 = z ∧ L1 = L ∧ ((¬ inR 0 1 p ∧ r = some (.int (nI 0)) ∧ σ2 = mdl K M (va_up sc 0 (nI 1)) ar σ0) ∨ (inR 0 1 p ∧ ¬ inR 0 20 x ∧ r = some (.int (nI 0)) ∧ σ2 = mdl K M (va_up sc 0 (nI 2)) ar σ0) ∨ (∃ p0 x0, p0 ≤ 1 ∧ x0 ≤ 20 ∧ p = nI p0 ∧ x = nI x0 ∧ r = some (.int (ar 4 p0)) ∧ σ2 = mdl K M (va_up sc 0 (nI 0)) (va_up ar 4 (va_up (ar 4) p0 (nI x0))) σ0))) := by
  obtain ⟨hw, hh, hw1, hw2, hh1, hh2⟩ := id hB
  have hn : w * h ≤ 49 := Nat.mul_le_mul hw2 hh2
  have hn1 : 16 ≤ w * h := Nat.mul_le_mul hw1 hh1
  refine g_intro [some (.ref M), some (.int p), some (.int x), none] (fun Γ hC => ?_) (by simp [g_en, lv_args, Value.category])
  refine g_aload_n (n := 1) hC rfl dX8_setBonus_0 ?_
  refine g_iload_n (n := 2) hC rfl dX8_setBonus_1 ?_
  refine g_iconst (n := 3) (v := (nI 0)) hC (by decide) dX8_setBonus_2 ?_
  refine g_iconst (n := 4) (v := (nI 1)) hC (by decide) dX8_setBonus_3 ?_
  refine g_cS (n := 7) hC gs_X8_80 (M_isInN K hD 0 1 (by omega) (by omega)) dX8_setBonus_4 ?_
  refine g_ifb_ne (n := 10) (tgt := 14) hC dX8_setBonus_7 (fun h7 => ?_) (fun h7 => ?_)
  ·
    obtain ⟨p0, hp0, hp1, rfl⟩ := h7
    refine g_iload_n (n := 15) hC rfl dX8_setBonus_14 ?_
    refine g_iconst (n := 16) (v := (nI 0)) hC (by decide) dX8_setBonus_15 ?_
    refine g_bipush (n := 18) (v := (nI 20)) hC (by decide) dX8_setBonus_16 ?_
    refine g_cS (n := 21) hC gs_X8_80 (M_isInN K hD 0 20 (by omega) (by omega)) dX8_setBonus_18 ?_
    refine g_ifb_ne (n := 24) (tgt := 28) hC dX8_setBonus_21 (fun h21 => ?_) (fun h21 => ?_)
    ·
      obtain ⟨x0, hx0, hx1, rfl⟩ := h21
      refine g_iconst (n := 29) (v := (nI 0)) hC (by decide) dX8_setBonus_28 ?_
      refine m_put0 (n := 32) hC hD gp_X8_73 dX8_setBonus_29 ?_
      refine g_aload_n (n := 33) hC rfl dX8_setBonus_32 ?_
      refine m_get (v := .int (nI 0)) (n := 36) hC hD gf_X8_73 dX8_setBonus_33 rfl ?_
      refine g_if_le (n := 39) (tgt := 41) hC dX8_setBonus_36 (fun _ => ?_) (fun h9 => absurd h9 (by decide))
      refine g_aload_n (n := 42) hC rfl dX8_setBonus_41 ?_
      refine m_get (v := .ref (M + 1)) (n := 45) hC hD gf_X8_16 dX8_setBonus_42 rfl ?_
      refine g_iload_n (n := 46) hC rfl dX8_setBonus_45 ?_
      refine m_ld4 (x := ((ar 4) p0)) (n := 47) hC hD p0 dX8_setBonus_46 (rfl) (by omega) (rfl) ?_
      refine g_istore_n (n := 48) (ll1 := [some (.ref M), some (.int (nI p0)), some (.int (nI x0)), some (.int ((ar 4) p0))]) hC dX8_setBonus_47 rfl ?_
      refine g_aload_n (n := 49) hC rfl dX8_setBonus_48 ?_
      refine m_get (v := .ref (M + 1)) (n := 52) hC hD gf_X8_16 dX8_setBonus_49 rfl ?_
      refine g_iload_n (n := 53) hC rfl dX8_setBonus_52 ?_
      refine g_iload_n (n := 54) hC rfl dX8_setBonus_53 ?_
      refine m_st4 (f := (ar 4)) (n := 55) hC hD p0 dX8_setBonus_54 (rfl) (by omega) rfl ?_
      refine g_iload_n (n := 56) hC rfl dX8_setBonus_55 ?_
      exact g_iret hC dX8_setBonus_56 (⟨rfl, rfl, (Or.inr (Or.inr ⟨p0, x0, hp1, hx1, rfl, rfl, rfl, rfl⟩))⟩)
    ·
      refine g_iconst (n := 25) (v := (nI 2)) hC (by decide) dX8_setBonus_24 ?_
      refine g_goto (n := 29) hC dX8_setBonus_25 ?_
      refine m_put0 (n := 32) hC hD gp_X8_73 dX8_setBonus_29 ?_
      refine g_aload_n (n := 33) hC rfl dX8_setBonus_32 ?_
      refine m_get (v := .int (nI 2)) (n := 36) hC hD gf_X8_73 dX8_setBonus_33 rfl ?_
      refine g_if_le (n := 39) (tgt := 41) hC dX8_setBonus_36 (fun h9 => absurd h9 (by decide)) (fun _ => ?_)
      refine g_iconst (n := 40) (v := (nI 0)) hC (by decide) dX8_setBonus_39 ?_
      exact g_iret hC dX8_setBonus_40 (⟨rfl, rfl, (Or.inr (Or.inl ⟨⟨p0, hp0, hp1, rfl⟩, h21, rfl, rfl⟩))⟩)
  ·
    refine g_iconst (n := 11) (v := (nI 1)) hC (by decide) dX8_setBonus_10 ?_
    refine g_goto (n := 29) hC dX8_setBonus_11 ?_
    refine m_put0 (n := 32) hC hD gp_X8_73 dX8_setBonus_29 ?_
    refine g_aload_n (n := 33) hC rfl dX8_setBonus_32 ?_
    refine m_get (v := .int (nI 1)) (n := 36) hC hD gf_X8_73 dX8_setBonus_33 rfl ?_
    refine g_if_le (n := 39) (tgt := 41) hC dX8_setBonus_36 (fun h9 => absurd h9 (by decide)) (fun _ => ?_)
    refine g_iconst (n := 40) (v := (nI 0)) hC (by decide) dX8_setBonus_39 ?_
    exact g_iret hC dX8_setBonus_40 (⟨rfl, rfl, (Or.inl ⟨h7, rfl, rfl⟩)⟩)

set_option maxRecDepth 20000 in
theorem M_cell (K : GK) {M : Nat} {sc : Nat → Int32} {ar : Nat → Nat → Int32} {σ0 : GS} {L : List Nat} {z : Nat} (hD : mdom M L) {w h : Nat} (hB : mB sc w h) {c y : Int32} : gM K yX8_cell cX8_cell 3 (some .int) 1 0 0 [.ref M, .int c, .int y] z L (mdl K M sc ar σ0) (fun r z1 L1 σ2 => z1 = z ∧ L1 = L ∧ ((¬ (inR 0 (w - 1) c ∧ inR 0 (h - 1) y) ∧ r = some (.int (nI 0)) ∧ σ2 = mdl K M (va_up sc 0 (nI 1)) ar σ0) ∨ (∃ c0 y0, c0 ≤ w - 1 ∧ y0 ≤ h - 1 ∧ c = nI c0 ∧ y = nI y0 ∧ r = some (.int (ar 5 (y0 * w + c0))) ∧ σ2 = mdl K M (va_up sc 0 (nI 0)) ar σ0))) := by
  obtain ⟨hw, hh, hw1, hw2, hh1, hh2⟩ := id hB
  have hn : w * h ≤ 49 := Nat.mul_le_mul hw2 hh2
  have hn1 : 16 ≤ w * h := Nat.mul_le_mul hw1 hh1
  refine g_intro [some (.ref M), some (.int c), some (.int y)] (fun Γ hC => ?_) (by simp [g_en, lv_args, Value.category])
  refine g_aload_n (n := 1) hC rfl dX8_cell_0 ?_
  refine g_iload_n (n := 2) hC rfl dX8_cell_1 ?_
  refine g_iconst (n := 3) (v := (nI 0)) hC (by decide) dX8_cell_2 ?_
  refine g_aload_n (n := 4) hC rfl dX8_cell_3 ?_
  refine m_get (v := .int (nI w)) (n := 7) hC hD gf_X8_9 dX8_cell_4 (congrArg (fun x => some (Value.int x)) (hw)) ?_
  refine g_iconst (n := 8) (v := (nI 1)) hC (by decide) dX8_cell_7 ?_
  refine g_isubN (n := 9) hC (by omega) dX8_cell_8 ?_
  refine g_cS (n := 12) hC gs_X8_80 (M_isInN K hD 0 (w - 1) (by omega) (by omega)) dX8_cell_9 ?_
  refine g_ifb_eq (n := 15) (tgt := 33) hC dX8_cell_12 (fun h12 => ?_) (fun h12 => ?_)
  ·
    refine g_iconst (n := 34) (v := (nI 1)) hC (by decide) dX8_cell_33 ?_
    refine m_put0 (n := 37) hC hD gp_X8_73 dX8_cell_34 ?_
    refine g_aload_n (n := 38) hC rfl dX8_cell_37 ?_
    refine m_get (v := .int (nI 1)) (n := 41) hC hD gf_X8_73 dX8_cell_38 rfl ?_
    refine g_if_ne (n := 44) (tgt := 60) hC dX8_cell_41 (fun _ => ?_) (fun h9 => absurd h9 (by decide))
    refine g_iconst (n := 61) (v := (nI 0)) hC (by decide) dX8_cell_60 ?_
    exact g_iret hC dX8_cell_61 (⟨rfl, rfl, (Or.inl ⟨fun q => h12 q.1, rfl, rfl⟩)⟩)
  ·
    obtain ⟨c0, hc0, hc1, rfl⟩ := h12
    refine g_iload_n (n := 16) hC rfl dX8_cell_15 ?_
    refine g_iconst (n := 17) (v := (nI 0)) hC (by decide) dX8_cell_16 ?_
    refine g_aload_n (n := 18) hC rfl dX8_cell_17 ?_
    refine m_get (v := .int (nI h)) (n := 21) hC hD gf_X8_13 dX8_cell_18 (congrArg (fun x => some (Value.int x)) (hh)) ?_
    refine g_iconst (n := 22) (v := (nI 1)) hC (by decide) dX8_cell_21 ?_
    refine g_isubN (n := 23) hC (by omega) dX8_cell_22 ?_
    refine g_cS (n := 26) hC gs_X8_80 (M_isInN K hD 0 (h - 1) (by omega) (by omega)) dX8_cell_23 ?_
    refine g_ifb_eq (n := 29) (tgt := 33) hC dX8_cell_26 (fun h26 => ?_) (fun h26 => ?_)
    ·
      refine g_iconst (n := 34) (v := (nI 1)) hC (by decide) dX8_cell_33 ?_
      refine m_put0 (n := 37) hC hD gp_X8_73 dX8_cell_34 ?_
      refine g_aload_n (n := 38) hC rfl dX8_cell_37 ?_
      refine m_get (v := .int (nI 1)) (n := 41) hC hD gf_X8_73 dX8_cell_38 rfl ?_
      refine g_if_ne (n := 44) (tgt := 60) hC dX8_cell_41 (fun _ => ?_) (fun h9 => absurd h9 (by decide))
      refine g_iconst (n := 61) (v := (nI 0)) hC (by decide) dX8_cell_60 ?_
      exact g_iret hC dX8_cell_61 (⟨rfl, rfl, (Or.inl ⟨fun q => h26 q.2, rfl, rfl⟩)⟩)
    ·
      obtain ⟨y0, hy0, hy1, rfl⟩ := h26
      refine g_iconst (n := 30) (v := (nI 0)) hC (by decide) dX8_cell_29 ?_
      refine g_goto (n := 34) hC dX8_cell_30 ?_
      refine m_put0 (n := 37) hC hD gp_X8_73 dX8_cell_34 ?_
      refine g_aload_n (n := 38) hC rfl dX8_cell_37 ?_
      refine m_get (v := .int (nI 0)) (n := 41) hC hD gf_X8_73 dX8_cell_38 rfl ?_
      refine g_if_ne (n := 44) (tgt := 60) hC dX8_cell_41 (fun h9 => absurd h9 (by decide)) (fun _ => ?_)
      refine g_aload_n (n := 45) hC rfl dX8_cell_44 ?_
      refine m_get (v := .ref (M + 2)) (n := 48) hC hD gf_X8_20 dX8_cell_45 rfl ?_
      refine g_iload_n (n := 49) hC rfl dX8_cell_48 ?_
      refine g_aload_n (n := 50) hC rfl dX8_cell_49 ?_
      refine m_get (v := .int (nI w)) (n := 53) hC hD gf_X8_9 dX8_cell_50 (congrArg (fun x => some (Value.int x)) (hw)) ?_
      refine g_imulN (n := 54) hC dX8_cell_53 ?_
      refine g_iload_n (n := 55) hC rfl dX8_cell_54 ?_
      refine g_iaddN (n := 56) hC dX8_cell_55 ?_
      refine m_ld5 (x := ((ar 5) ((y0 * w) + c0))) (n := 57) hC hD ((y0 * w) + c0) dX8_cell_56 (rfl) (by have := Nat.mul_le_mul_right w (show y0 + 1 ≤ h by omega); rw [Nat.succ_mul, Nat.mul_comm h w] at this; omega) (rfl) ?_
      refine g_goto (n := 61) hC dX8_cell_57 ?_
      exact g_iret hC dX8_cell_61 (⟨rfl, rfl, (Or.inr ⟨c0, y0, hc1, hy1, rfl, rfl, rfl, rfl⟩)⟩)

set_option maxRecDepth 20000 in
theorem M_since (K : GK) {M : Nat} {sc : Nat → Int32} {ar : Nat → Nat → Int32} {σ0 : GS} {L : List Nat} {z : Nat} (hD : mdom M L) {w h : Nat} (hB : mB sc w h) {c x : Int32} : gM K yX8_since cX8_since 3 (some .int) 2 0 0 [.ref M, .int c, .int x] z L (mdl K M sc ar σ0) (fun r z1 L1 σ2 => z1 = z ∧ L1 = L ∧ ((¬ inN (w * h) c ∧ r = some (.int (nI 0)) ∧ σ2 = mdl K M (va_up sc 0 (nI 1)) ar σ0) ∨ (inN (w * h) c ∧ ¬ inR 0 1 x ∧ r = some (.int (nI 0)) ∧ σ2 = mdl K M (va_up sc 0 (nI 2)) ar σ0) ∨ (∃ c0 x0, c0 < w * h ∧ x0 ≤ 1 ∧ c = nI c0 ∧ x = nI x0 ∧ r = some (.int (ar 5 ((if x0 = 0 then 49 else 98) + c0))) ∧ σ2 = mdl K M (va_up sc 0 (nI 0)) ar σ0))) := by
  obtain ⟨hw, hh, hw1, hw2, hh1, hh2⟩ := id hB
  have hn : w * h ≤ 49 := Nat.mul_le_mul hw2 hh2
  have hn1 : 16 ≤ w * h := Nat.mul_le_mul hw1 hh1
  refine g_intro [some (.ref M), some (.int c), some (.int x)] (fun Γ hC => ?_) (by simp [g_en, lv_args, Value.category])
  refine g_aload_n (n := 1) hC rfl dX8_since_0 ?_
  refine g_aload_n (n := 2) hC rfl dX8_since_1 ?_
  refine g_iload_n (n := 3) hC rfl dX8_since_2 ?_
  refine g_cV (n := 6) hC gv_X8_150 (hD 0 (by decide)) mdl_0 (M_isCellN K hD hB) dX8_since_3 ?_
  refine g_ifb_ne (n := 9) (tgt := 13) hC dX8_since_6 (fun h6 => ?_) (fun h6 => ?_)
  ·
    obtain ⟨c0, hc1, rfl⟩ := h6
    refine g_iload_n (n := 14) hC rfl dX8_since_13 ?_
    refine g_iconst (n := 15) (v := (nI 0)) hC (by decide) dX8_since_14 ?_
    refine g_iconst (n := 16) (v := (nI 1)) hC (by decide) dX8_since_15 ?_
    refine g_cS (n := 19) hC gs_X8_80 (M_isInN K hD 0 1 (by omega) (by omega)) dX8_since_16 ?_
    refine g_ifb_ne (n := 22) (tgt := 26) hC dX8_since_19 (fun h19 => ?_) (fun h19 => ?_)
    ·
      obtain ⟨x0, hx0, hx1, rfl⟩ := h19
      refine g_iconst (n := 27) (v := (nI 0)) hC (by decide) dX8_since_26 ?_
      refine m_put0 (n := 30) hC hD gp_X8_73 dX8_since_27 ?_
      refine g_aload_n (n := 31) hC rfl dX8_since_30 ?_
      refine m_get (v := .int (nI 0)) (n := 34) hC hD gf_X8_73 dX8_since_31 rfl ?_
      refine g_if_ne (n := 37) (tgt := 58) hC dX8_since_34 (fun h9 => absurd h9 (by decide)) (fun _ => ?_)
      refine g_aload_n (n := 38) hC rfl dX8_since_37 ?_
      refine m_get (v := .ref (M + 2)) (n := 41) hC hD gf_X8_20 dX8_since_38 rfl ?_
      refine g_iload_n (n := 42) hC rfl dX8_since_41 ?_
      refine g_if_neN (n := 45) (tgt := 50) hC (by omega) dX8_since_42 (fun h42 => ?_) (fun h42 => ?_)
      ·
        refine g_bipush (n := 52) (v := (nI 98)) hC (by decide) dX8_since_50 ?_
        refine g_iload_n (n := 53) hC rfl dX8_since_52 ?_
        refine g_iaddN (n := 54) hC dX8_since_53 ?_
        refine m_ld5 (x := ((ar 5) (98 + c0))) (n := 55) hC hD (98 + c0) dX8_since_54 (rfl) (by omega) (rfl) ?_
        refine g_goto (n := 59) hC dX8_since_55 ?_
        exact g_iret hC dX8_since_59 (⟨rfl, rfl, (Or.inr (Or.inr ⟨c0, x0, hc1, hx1, rfl, rfl, by rw [if_neg h42], rfl⟩))⟩)
      ·
        refine g_bipush (n := 47) (v := (nI 49)) hC (by decide) dX8_since_45 ?_
        refine g_goto (n := 52) hC dX8_since_47 ?_
        refine g_iload_n (n := 53) hC rfl dX8_since_52 ?_
        refine g_iaddN (n := 54) hC dX8_since_53 ?_
        refine m_ld5 (x := ((ar 5) (49 + c0))) (n := 55) hC hD (49 + c0) dX8_since_54 (rfl) (by omega) (rfl) ?_
        refine g_goto (n := 59) hC dX8_since_55 ?_
        exact g_iret hC dX8_since_59 (⟨rfl, rfl, (Or.inr (Or.inr ⟨c0, x0, hc1, hx1, rfl, rfl, by rw [if_pos h42], rfl⟩))⟩)
    ·
      refine g_iconst (n := 23) (v := (nI 2)) hC (by decide) dX8_since_22 ?_
      refine g_goto (n := 27) hC dX8_since_23 ?_
      refine m_put0 (n := 30) hC hD gp_X8_73 dX8_since_27 ?_
      refine g_aload_n (n := 31) hC rfl dX8_since_30 ?_
      refine m_get (v := .int (nI 2)) (n := 34) hC hD gf_X8_73 dX8_since_31 rfl ?_
      refine g_if_ne (n := 37) (tgt := 58) hC dX8_since_34 (fun _ => ?_) (fun h9 => absurd h9 (by decide))
      refine g_iconst (n := 59) (v := (nI 0)) hC (by decide) dX8_since_58 ?_
      exact g_iret hC dX8_since_59 (⟨rfl, rfl, (Or.inr (Or.inl ⟨⟨c0, hc1, rfl⟩, h19, rfl, rfl⟩))⟩)
  ·
    refine g_iconst (n := 10) (v := (nI 1)) hC (by decide) dX8_since_9 ?_
    refine g_goto (n := 27) hC dX8_since_10 ?_
    refine m_put0 (n := 30) hC hD gp_X8_73 dX8_since_27 ?_
    refine g_aload_n (n := 31) hC rfl dX8_since_30 ?_
    refine m_get (v := .int (nI 1)) (n := 34) hC hD gf_X8_73 dX8_since_31 rfl ?_
    refine g_if_ne (n := 37) (tgt := 58) hC dX8_since_34 (fun _ => ?_) (fun h9 => absurd h9 (by decide))
    refine g_iconst (n := 59) (v := (nI 0)) hC (by decide) dX8_since_58 ?_
    exact g_iret hC dX8_since_59 (⟨rfl, rfl, (Or.inl ⟨h6, rfl, rfl⟩)⟩)

def ctF (f : Nat → Int32) (w h x : Nat) : Int32 := if x = 0 then f 153 else if x = 1 then nI w else if x = 2 then nI h else if x = 3 then nI (mny f (w * h) (nI 0)) else if x = 4 then nI (mny f (w * h) (nI 5)) else if x = 5 then f 151 else f 152

set_option maxRecDepth 20000 in
theorem M_count (K : GK) {M : Nat} {sc : Nat → Int32} {ar : Nat → Nat → Int32} {σ0 : GS} {L : List Nat} {z : Nat} (hD : mdom M L) {w h : Nat} (hB : mB sc w h) {x : Int32} : gM K yX8_count cX8_count 2 (some .int) 4 0 0 [.ref M, .int x] z L (mdl K M sc ar σ0) (fun r z1 L1 σ2 => z1 = z ∧ L1 = L ∧ ((¬ inR 0 6 x ∧ r = some (.int (nI 0)) ∧ σ2 = mdl K M (va_up sc 0 (nI 1)) ar σ0) ∨ (∃ x0, x0 ≤ 6 ∧ x = nI x0 ∧ r = some (.int (ctF (ar 5) w h x0)) ∧ σ2 = mdl K M (va_up sc 0 (nI 0)) ar σ0))) := by
  obtain ⟨hw, hh, hw1, hw2, hh1, hh2⟩ := id hB
  have hn : w * h ≤ 49 := Nat.mul_le_mul hw2 hh2
  have hn1 : 16 ≤ w * h := Nat.mul_le_mul hw1 hh1
  refine g_intro [some (.ref M), some (.int x)] (fun Γ hC => ?_) (by simp [g_en, lv_args, Value.category])
  refine g_aload_n (n := 1) hC rfl dX8_count_0 ?_
  refine g_iload_n (n := 2) hC rfl dX8_count_1 ?_
  refine g_iconst (n := 3) (v := (nI 0)) hC (by decide) dX8_count_2 ?_
  refine g_bipush (n := 5) (v := (nI 6)) hC (by decide) dX8_count_3 ?_
  refine g_cS (n := 8) hC gs_X8_80 (M_isInN K hD 0 6 (by omega) (by omega)) dX8_count_5 ?_
  refine g_ifb_eq (n := 11) (tgt := 15) hC dX8_count_8 (fun h8 => ?_) (fun h8 => ?_)
  ·
    refine g_iconst (n := 16) (v := (nI 1)) hC (by decide) dX8_count_15 ?_
    refine m_put0 (n := 19) hC hD gp_X8_73 dX8_count_16 ?_
    refine g_aload_n (n := 20) hC rfl dX8_count_19 ?_
    refine m_get (v := .int (nI 1)) (n := 23) hC hD gf_X8_73 dX8_count_20 rfl ?_
    refine g_iconst (n := 24) (v := (nI 1)) hC (by decide) dX8_count_23 ?_
    refine g_icmp_neN (n := 27) (tgt := 29) hC (by decide) (by decide) dX8_count_24 (fun h9 => absurd h9 (by decide)) (fun _ => ?_)
    refine g_iconst (n := 28) (v := (nI 0)) hC (by decide) dX8_count_27 ?_
    exact g_iret hC dX8_count_28 (⟨rfl, rfl, (Or.inl ⟨h8, rfl, rfl⟩)⟩)
  ·
    obtain ⟨x0, hx0, hx1, rfl⟩ := h8
    refine g_iconst (n := 12) (v := (nI 0)) hC (by decide) dX8_count_11 ?_
    refine g_goto (n := 16) hC dX8_count_12 ?_
    refine m_put0 (n := 19) hC hD gp_X8_73 dX8_count_16 ?_
    refine g_aload_n (n := 20) hC rfl dX8_count_19 ?_
    refine m_get (v := .int (nI 0)) (n := 23) hC hD gf_X8_73 dX8_count_20 rfl ?_
    refine g_iconst (n := 24) (v := (nI 1)) hC (by decide) dX8_count_23 ?_
    refine g_icmp_neN (n := 27) (tgt := 29) hC (by decide) (by decide) dX8_count_24 (fun _ => ?_) (fun h9 => absurd h9 (by decide))
    refine g_iload_n (n := 30) hC rfl dX8_count_29 ?_
    refine g_tsw (n := 107) hC dX8_count_30 (by decide) (fun j9 hj9 e9 tgt9 ht9 => ?_) (fun ho9 => ?_)
    · match j9, hj9 with
      | 0, _ =>
        obtain rfl : tgt9 = 68 := by revert ht9; show _ = (_ : Int) → _; intro ht9; exact (by have h8 := ht9; simp at h8; omega)
        obtain rfl : x0 = 0 := (nI_eq (by omega) (by omega)).mp e9
        refine g_aload_n (n := 69) hC rfl dX8_count_68 ?_
        refine m_get (v := .ref (M + 2)) (n := 72) hC hD gf_X8_20 dX8_count_69 rfl ?_
        refine g_sipush (n := 75) (v := (nI 153)) hC (by decide) dX8_count_72 ?_
        refine m_ld5 (x := ((ar 5) 153)) (n := 76) hC hD 153 dX8_count_75 (rfl) (by omega) (rfl) ?_
        exact g_iret hC dX8_count_76 (⟨rfl, rfl, (Or.inr ⟨_, hx1, rfl, rfl, rfl⟩)⟩)
      | 1, _ =>
        obtain rfl : tgt9 = 77 := by revert ht9; show _ = (_ : Int) → _; intro ht9; exact (by have h8 := ht9; simp at h8; omega)
        obtain rfl : x0 = 1 := (nI_eq (by omega) (by omega)).mp e9
        refine g_aload_n (n := 78) hC rfl dX8_count_77 ?_
        refine m_get (v := .int (nI w)) (n := 81) hC hD gf_X8_9 dX8_count_78 (congrArg (fun x => some (Value.int x)) (hw)) ?_
        exact g_iret hC dX8_count_81 (⟨rfl, rfl, (Or.inr ⟨_, hx1, rfl, rfl, rfl⟩)⟩)
      | 2, _ =>
        obtain rfl : tgt9 = 82 := by revert ht9; show _ = (_ : Int) → _; intro ht9; exact (by have h8 := ht9; simp at h8; omega)
        obtain rfl : x0 = 2 := (nI_eq (by omega) (by omega)).mp e9
        refine g_aload_n (n := 83) hC rfl dX8_count_82 ?_
        refine m_get (v := .int (nI h)) (n := 86) hC hD gf_X8_13 dX8_count_83 (congrArg (fun x => some (Value.int x)) (hh)) ?_
        exact g_iret hC dX8_count_86 (⟨rfl, rfl, (Or.inr ⟨_, hx1, rfl, rfl, rfl⟩)⟩)
      | 3, _ =>
        obtain rfl : tgt9 = 87 := by revert ht9; show _ = (_ : Int) → _; intro ht9; exact (by have h8 := ht9; simp at h8; omega)
        obtain rfl : x0 = 3 := (nI_eq (by omega) (by omega)).mp e9
        refine g_aload_n (n := 88) hC rfl dX8_count_87 ?_
        refine g_cV (n := 91) hC gv_X8_108 (hD 0 (by decide)) mdl_0 (M_emptyCells K hD (show mB (va_up sc 0 (nI 0)) w h from hB)) dX8_count_88 ?_
        exact g_iret hC dX8_count_91 (⟨rfl, rfl, (Or.inr ⟨_, hx1, rfl, rfl, rfl⟩)⟩)
      | 4, _ =>
        obtain rfl : tgt9 = 92 := by revert ht9; show _ = (_ : Int) → _; intro ht9; exact (by have h8 := ht9; simp at h8; omega)
        obtain rfl : x0 = 4 := (nI_eq (by omega) (by omega)).mp e9
        refine g_aload_n (n := 93) hC rfl dX8_count_92 ?_
        refine g_iconst (n := 94) (v := (nI 5)) hC (by decide) dX8_count_93 ?_
        refine g_cV (n := 97) hC gv_X8_84 (hD 0 (by decide)) mdl_0 (M_many K hD (show mB (va_up sc 0 (nI 0)) w h from hB)) dX8_count_94 ?_
        exact g_iret hC dX8_count_97 (⟨rfl, rfl, (Or.inr ⟨_, hx1, rfl, rfl, rfl⟩)⟩)
      | 5, _ =>
        obtain rfl : tgt9 = 98 := by revert ht9; show _ = (_ : Int) → _; intro ht9; exact (by have h8 := ht9; simp at h8; omega)
        obtain rfl : x0 = 5 := (nI_eq (by omega) (by omega)).mp e9
        refine g_aload_n (n := 99) hC rfl dX8_count_98 ?_
        refine m_get (v := .ref (M + 2)) (n := 102) hC hD gf_X8_20 dX8_count_99 rfl ?_
        refine g_sipush (n := 105) (v := (nI 151)) hC (by decide) dX8_count_102 ?_
        refine m_ld5 (x := ((ar 5) 151)) (n := 106) hC hD 151 dX8_count_105 (rfl) (by omega) (rfl) ?_
        exact g_iret hC dX8_count_106 (⟨rfl, rfl, (Or.inr ⟨_, hx1, rfl, rfl, rfl⟩)⟩)
      | j + 6, hj => exact absurd hj (by simp)
    ·
      obtain rfl : x0 = 6 := by
        rcases Nat.lt_or_ge x0 6 with q | q
        · exact absurd rfl (ho9 x0 q)
        · omega
      refine g_aload_n (n := 108) hC rfl dX8_count_107 ?_
      refine m_get (v := .ref (M + 2)) (n := 111) hC hD gf_X8_20 dX8_count_108 rfl ?_
      refine g_sipush (n := 114) (v := (nI 152)) hC (by decide) dX8_count_111 ?_
      refine m_ld5 (x := ((ar 5) 152)) (n := 115) hC hD 152 dX8_count_114 (rfl) (by omega) (rfl) ?_
      exact g_iret hC dX8_count_115 (⟨rfl, rfl, (Or.inr ⟨_, hx1, rfl, rfl, rfl⟩)⟩)

set_option maxRecDepth 20000 in
theorem M_start (K : GK) {M : Nat} {sc : Nat → Int32} {ar : Nat → Nat → Int32} {σ0 : GS} {L : List Nat} {z : Nat} (hD : mdom M L) {w h : Nat} (hB : mB sc w h) {a b k : Int32} : gM K yX8_start cX8_start 4 (some .int) 2 0 0 [.ref M, .int a, .int b, .int k] z L (mdl K M sc ar σ0) (fun r z1 L1 σ2 => z1 = z ∧ L1 = L ∧ ((¬ (inR 4 7 a ∧ inR 4 7 b ∧ inR 0 4 k) ∧ r = some (.int (nI 0)) ∧ σ2 = mdl K M (va_up sc 0 (nI 1)) ar σ0) ∨ (∃ a0 b0 k0, 4 ≤ a0 ∧ a0 ≤ 7 ∧ 4 ≤ b0 ∧ b0 ≤ 7 ∧ k0 ≤ 4 ∧ a = nI a0 ∧ b = nI b0 ∧ k = nI k0 ∧ r = some (.int (nI (mny (bgF a0 b0 (ar 5) k0) (a0 * b0) (nI 0)))) ∧ σ2 = mdl K M (va_up (va_up (va_up sc 0 (nI 0)) 1 (nI a0)) 2 (nI b0)) (va_up (va_up ar 4 (va_up (va_up (ar 4) 0 (nI 0)) 1 (nI 0))) 5 (bgF a0 b0 (ar 5) k0)) σ0))) := by
  obtain ⟨hw, hh, hw1, hw2, hh1, hh2⟩ := id hB
  have hn : w * h ≤ 49 := Nat.mul_le_mul hw2 hh2
  have hn1 : 16 ≤ w * h := Nat.mul_le_mul hw1 hh1
  refine g_intro [some (.ref M), some (.int a), some (.int b), some (.int k)] (fun Γ hC => ?_) (by simp [g_en, lv_args, Value.category])
  refine g_aload_n (n := 1) hC rfl dX8_start_0 ?_
  refine g_iload_n (n := 2) hC rfl dX8_start_1 ?_
  refine g_iconst (n := 3) (v := (nI 4)) hC (by decide) dX8_start_2 ?_
  refine g_bipush (n := 5) (v := (nI 7)) hC (by decide) dX8_start_3 ?_
  refine g_cS (n := 8) hC gs_X8_80 (M_isInN K hD 4 7 (by omega) (by omega)) dX8_start_5 ?_
  refine g_ifb_eq (n := 11) (tgt := 34) hC dX8_start_8 (fun h8 => ?_) (fun h8 => ?_)
  ·
    refine g_iconst (n := 35) (v := (nI 1)) hC (by decide) dX8_start_34 ?_
    refine m_put0 (n := 38) hC hD gp_X8_73 dX8_start_35 ?_
    refine g_aload_n (n := 39) hC rfl dX8_start_38 ?_
    refine m_get (v := .int (nI 1)) (n := 42) hC hD gf_X8_73 dX8_start_39 rfl ?_
    refine g_iconst (n := 43) (v := (nI 1)) hC (by decide) dX8_start_42 ?_
    refine g_icmp_neN (n := 46) (tgt := 48) hC (by decide) (by decide) dX8_start_43 (fun h9 => absurd h9 (by decide)) (fun _ => ?_)
    refine g_iconst (n := 47) (v := (nI 0)) hC (by decide) dX8_start_46 ?_
    exact g_iret hC dX8_start_47 (⟨rfl, rfl, (Or.inl ⟨fun q => h8 q.1, rfl, rfl⟩)⟩)
  ·
    obtain ⟨a0, ha0, ha1, rfl⟩ := h8
    refine g_iload_n (n := 12) hC rfl dX8_start_11 ?_
    refine g_iconst (n := 13) (v := (nI 4)) hC (by decide) dX8_start_12 ?_
    refine g_bipush (n := 15) (v := (nI 7)) hC (by decide) dX8_start_13 ?_
    refine g_cS (n := 18) hC gs_X8_80 (M_isInN K hD 4 7 (by omega) (by omega)) dX8_start_15 ?_
    refine g_ifb_eq (n := 21) (tgt := 34) hC dX8_start_18 (fun h18 => ?_) (fun h18 => ?_)
    ·
      refine g_iconst (n := 35) (v := (nI 1)) hC (by decide) dX8_start_34 ?_
      refine m_put0 (n := 38) hC hD gp_X8_73 dX8_start_35 ?_
      refine g_aload_n (n := 39) hC rfl dX8_start_38 ?_
      refine m_get (v := .int (nI 1)) (n := 42) hC hD gf_X8_73 dX8_start_39 rfl ?_
      refine g_iconst (n := 43) (v := (nI 1)) hC (by decide) dX8_start_42 ?_
      refine g_icmp_neN (n := 46) (tgt := 48) hC (by decide) (by decide) dX8_start_43 (fun h9 => absurd h9 (by decide)) (fun _ => ?_)
      refine g_iconst (n := 47) (v := (nI 0)) hC (by decide) dX8_start_46 ?_
      exact g_iret hC dX8_start_47 (⟨rfl, rfl, (Or.inl ⟨fun q => h18 q.2.1, rfl, rfl⟩)⟩)
    ·
      obtain ⟨b0, hb0, hb1, rfl⟩ := h18
      refine g_iload_n (n := 22) hC rfl dX8_start_21 ?_
      refine g_iconst (n := 23) (v := (nI 0)) hC (by decide) dX8_start_22 ?_
      refine g_iconst (n := 24) (v := (nI 4)) hC (by decide) dX8_start_23 ?_
      refine g_cS (n := 27) hC gs_X8_80 (M_isInN K hD 0 4 (by omega) (by omega)) dX8_start_24 ?_
      refine g_ifb_eq (n := 30) (tgt := 34) hC dX8_start_27 (fun h27 => ?_) (fun h27 => ?_)
      ·
        refine g_iconst (n := 35) (v := (nI 1)) hC (by decide) dX8_start_34 ?_
        refine m_put0 (n := 38) hC hD gp_X8_73 dX8_start_35 ?_
        refine g_aload_n (n := 39) hC rfl dX8_start_38 ?_
        refine m_get (v := .int (nI 1)) (n := 42) hC hD gf_X8_73 dX8_start_39 rfl ?_
        refine g_iconst (n := 43) (v := (nI 1)) hC (by decide) dX8_start_42 ?_
        refine g_icmp_neN (n := 46) (tgt := 48) hC (by decide) (by decide) dX8_start_43 (fun h9 => absurd h9 (by decide)) (fun _ => ?_)
        refine g_iconst (n := 47) (v := (nI 0)) hC (by decide) dX8_start_46 ?_
        exact g_iret hC dX8_start_47 (⟨rfl, rfl, (Or.inl ⟨fun q => h27 q.2.2, rfl, rfl⟩)⟩)
      ·
        obtain ⟨k0, hk0, hk1, rfl⟩ := h27
        refine g_iconst (n := 31) (v := (nI 0)) hC (by decide) dX8_start_30 ?_
        refine g_goto (n := 35) hC dX8_start_31 ?_
        refine m_put0 (n := 38) hC hD gp_X8_73 dX8_start_35 ?_
        refine g_aload_n (n := 39) hC rfl dX8_start_38 ?_
        refine m_get (v := .int (nI 0)) (n := 42) hC hD gf_X8_73 dX8_start_39 rfl ?_
        refine g_iconst (n := 43) (v := (nI 1)) hC (by decide) dX8_start_42 ?_
        refine g_icmp_neN (n := 46) (tgt := 48) hC (by decide) (by decide) dX8_start_43 (fun _ => ?_) (fun h9 => absurd h9 (by decide))
        refine g_aload_n (n := 49) hC rfl dX8_start_48 ?_
        refine g_iload_n (n := 50) hC rfl dX8_start_49 ?_
        refine m_put1 (n := 53) hC hD gp_X8_9 dX8_start_50 ?_
        refine g_aload_n (n := 54) hC rfl dX8_start_53 ?_
        refine g_iload_n (n := 55) hC rfl dX8_start_54 ?_
        refine m_put2 (n := 58) hC hD gp_X8_13 dX8_start_55 ?_
        refine g_aload_n (n := 59) hC rfl dX8_start_58 ?_
        refine m_get (v := .ref (M + 1)) (n := 62) hC hD gf_X8_16 dX8_start_59 rfl ?_
        refine g_iconst (n := 63) (v := (nI 0)) hC (by decide) dX8_start_62 ?_
        refine g_iconst (n := 64) (v := (nI 0)) hC (by decide) dX8_start_63 ?_
        refine m_st4 (f := (ar 4)) (n := 65) hC hD 0 dX8_start_64 (rfl) (by omega) rfl ?_
        refine g_aload_n (n := 66) hC rfl dX8_start_65 ?_
        refine m_get (v := .ref (M + 1)) (n := 69) hC hD gf_X8_16 dX8_start_66 rfl ?_
        refine g_iconst (n := 70) (v := (nI 1)) hC (by decide) dX8_start_69 ?_
        refine g_iconst (n := 71) (v := (nI 0)) hC (by decide) dX8_start_70 ?_
        refine m_st4 (f := (va_up (ar 4) 0 (nI 0))) (n := 72) hC hD 1 dX8_start_71 (rfl) (by omega) rfl ?_
        refine G.eqs mdl_uu ?_
        refine g_aload_n (n := 73) hC rfl dX8_start_72 ?_
        refine g_iload_n (n := 74) hC rfl dX8_start_73 ?_
        refine g_cVv (n := 77) hC gv_X8_69 (hD 0 (by decide)) mdl_0 (M_begins K hD (show mB (va_up (va_up (va_up sc 0 (nI 0)) 1 (nI a0)) 2 (nI b0)) a0 b0 from ⟨rfl, rfl, ha0, ha1, hb0, hb1⟩) hk1) dX8_start_74 ?_
        refine G.eqs (show _ = mdl K M (va_up (va_up (va_up sc 0 (nI 0)) 1 (nI a0)) 2 (nI b0)) (va_up (va_up ar 4 (va_up (va_up (ar 4) 0 (nI 0)) 1 (nI 0))) 5 (bgF a0 b0 (ar 5) k0)) σ0 from rfl) ?_
        refine g_aload_n (n := 78) hC rfl dX8_start_77 ?_
        refine g_iconst (n := 79) (v := (nI 0)) hC (by decide) dX8_start_78 ?_
        refine g_cV (n := 82) hC gv_X8_84 (hD 0 (by decide)) mdl_0 (M_many K hD (show mB (va_up (va_up (va_up sc 0 (nI 0)) 1 (nI a0)) 2 (nI b0)) a0 b0 from ⟨rfl, rfl, ha0, ha1, hb0, hb1⟩)) dX8_start_79 ?_
        exact g_iret hC dX8_start_82 (⟨rfl, rfl, (Or.inr ⟨a0, b0, k0, ha0, ha1, hb0, hb1, hk1, rfl, rfl, rfl, rfl, rfl⟩)⟩)

set_option maxRecDepth 20000 in
theorem M_undo (K : GK) {M : Nat} {sc : Nat → Int32} {ar : Nat → Nat → Int32} {σ0 : GS} {L : List Nat} {z : Nat} (hD : mdom M L) {w h : Nat} (hB : mB sc w h) {pl : Nat} (hpl : ar 5 153 = nI pl) (hpl60 : pl ≤ 60) : gM K yX8_undo cX8_undo 3 (some .int) 0 0 0 [.ref M] z L (mdl K M sc ar σ0) (fun r z1 L1 σ2 => z1 = z ∧ L1 = L ∧ ((pl = 0 ∧ r = some (.int (nI 0)) ∧ σ2 = mdl K M (va_up sc 0 (nI 1)) ar σ0) ∨ (pl ≠ 0 ∧ r = some (.int (nI (pl - 1))) ∧ σ2 = mdl K M (va_up sc 0 (nI 0)) (va_up ar 5 (rowF (ar 8) (155 * (pl - 1)) (ar 5) 155)) σ0))) := by
  obtain ⟨hw, hh, hw1, hw2, hh1, hh2⟩ := id hB
  have hn : w * h ≤ 49 := Nat.mul_le_mul hw2 hh2
  have hn1 : 16 ≤ w * h := Nat.mul_le_mul hw1 hh1
  refine g_intro [some (.ref M), none, none] (fun Γ hC => ?_) (by simp [g_en, lv_args, Value.category])
  refine g_aload_n (n := 1) hC rfl dX8_undo_0 ?_
  refine g_aload_n (n := 2) hC rfl dX8_undo_1 ?_
  refine m_get (v := .ref (M + 2)) (n := 5) hC hD gf_X8_20 dX8_undo_2 rfl ?_
  refine g_sipush (n := 8) (v := (nI 153)) hC (by decide) dX8_undo_5 ?_
  refine m_ld5 (x := (nI pl)) (n := 9) hC hD 153 dX8_undo_8 (rfl) (by omega) (hpl) ?_
  refine g_if_neN (n := 12) (tgt := 16) hC (by omega) dX8_undo_9 (fun h9 => ?_) (fun h9 => ?_)
  ·
    refine g_iconst (n := 17) (v := (nI 0)) hC (by decide) dX8_undo_16 ?_
    refine m_put0 (n := 20) hC hD gp_X8_73 dX8_undo_17 ?_
    refine g_aload_n (n := 21) hC rfl dX8_undo_20 ?_
    refine m_get (v := .int (nI 0)) (n := 24) hC hD gf_X8_73 dX8_undo_21 rfl ?_
    refine g_iconst (n := 25) (v := (nI 1)) hC (by decide) dX8_undo_24 ?_
    refine g_icmp_neN (n := 28) (tgt := 30) hC (by decide) (by decide) dX8_undo_25 (fun _ => ?_) (fun h9 => absurd h9 (by decide))
    refine g_aload_n (n := 31) hC rfl dX8_undo_30 ?_
    refine m_get (v := .ref (M + 2)) (n := 34) hC hD gf_X8_20 dX8_undo_31 rfl ?_
    refine g_sipush (n := 37) (v := (nI 153)) hC (by decide) dX8_undo_34 ?_
    refine m_ld5 (x := (nI pl)) (n := 38) hC hD 153 dX8_undo_37 (rfl) (by omega) (hpl) ?_
    refine g_iconst (n := 39) (v := (nI 1)) hC (by decide) dX8_undo_38 ?_
    refine g_isubN (n := 40) hC (by omega) dX8_undo_39 ?_
    refine g_istore_n (n := 41) (ll1 := [some (.ref M), some (.int (nI (pl - 1))), none]) hC dX8_undo_40 rfl ?_
    refine g_iconst (n := 42) (v := (nI 0)) hC (by decide) dX8_undo_41 ?_
    refine g_istore_n (n := 43) (ll1 := [some (.ref M), some (.int (nI (pl - 1))), some (.int (nI 0))]) hC dX8_undo_42 rfl ?_
    have lp43 : ∀ (n9 : Nat) (c : Nat) (hc : c ≤ 155) (y2 : Int32) (ey2 : y2 = (nI c)) (hm9 : 155 - c < n9), G K Γ (z, 0, 0, L) (mdl K M (va_up sc 0 (nI 0)) (va_up ar 5 (rowF (ar 8) (155 * (pl - 1)) (ar 5) c)) σ0) 43 [some (.ref M), some (.int (nI (pl - 1))), some (.int y2)] [] := by
      intro n9
      induction n9 with
      | zero =>
        intro c hc y2 ey2 hm9
        exact absurd hm9 (Nat.not_lt_zero _)
      | succ n9 ih43 =>
        intro c hc y2 ey2 hm9
        subst ey2
        refine g_iload_n (n := 44) hC rfl dX8_undo_43 ?_
        refine g_sipush (n := 47) (v := (nI 155)) hC (by decide) dX8_undo_44 ?_
        refine g_icmp_geN (n := 50) (tgt := 74) hC (by omega) (by omega) dX8_undo_47 (fun h47 => ?_) (fun h47 => ?_)
        ·
          refine g_iload_n (n := 75) hC rfl dX8_undo_74 ?_
          exact g_iret hC dX8_undo_75 (⟨rfl, rfl, (Or.inr ⟨h9, rfl, by rw [show c = 155 by omega]⟩)⟩)
        ·
          refine g_aload_n (n := 51) hC rfl dX8_undo_50 ?_
          refine m_get (v := .ref (M + 2)) (n := 54) hC hD gf_X8_20 dX8_undo_51 rfl ?_
          refine g_iload_n (n := 55) hC rfl dX8_undo_54 ?_
          refine g_aload_n (n := 56) hC rfl dX8_undo_55 ?_
          refine m_get (v := .ref (M + 5)) (n := 59) hC hD gf_X8_29 dX8_undo_56 rfl ?_
          refine g_sipush (n := 62) (v := (nI 155)) hC (by decide) dX8_undo_59 ?_
          refine g_iload_n (n := 63) hC rfl dX8_undo_62 ?_
          refine g_imulN (n := 64) hC dX8_undo_63 ?_
          refine g_iload_n (n := 65) hC rfl dX8_undo_64 ?_
          refine g_iaddN (n := 66) hC dX8_undo_65 ?_
          refine m_ld8 (x := ((ar 8) ((155 * (pl - 1)) + c))) (n := 67) hC hD ((155 * (pl - 1)) + c) dX8_undo_66 (rfl) (by omega) (rfl) ?_
          refine m_st5 (f := (rowF (ar 8) (155 * (pl - 1)) (ar 5) c)) (n := 68) hC hD c dX8_undo_67 (rfl) (by omega) rfl ?_
          refine G.eqs mdl_uu ?_
          refine g_iinc (n := 71) (ll1 := [some (.ref M), some (.int (nI (pl - 1))), some (.int (nI (c + 1)))]) hC dX8_undo_68 rfl (nI_inc _) rfl ?_
          refine g_goto (n := 43) hC dX8_undo_71 ?_
          refine G.eqs (show _ = mdl K M (va_up sc 0 (nI 0)) (va_up ar 5 (rowF (ar 8) (155 * (pl - 1)) (ar 5) (c + 1))) σ0 from (by rw [rowF_s])) ?_
          exact ih43 (c + 1) (by omega) _ (by first | rfl | (simp [*]; done)) (by omega)
    refine G.eqs (show _ = mdl K M (va_up sc 0 (nI 0)) (va_up ar 5 (rowF (ar 8) (155 * (pl - 1)) (ar 5) 0)) σ0 from (by rw [rowF_0, va_up_same])) ?_
    exact lp43 _ 0 (by omega) _ (by first | rfl | (simp [*]; done)) (Nat.lt_succ_self _)
  ·
    refine g_iconst (n := 13) (v := (nI 1)) hC (by decide) dX8_undo_12 ?_
    refine g_goto (n := 17) hC dX8_undo_13 ?_
    refine m_put0 (n := 20) hC hD gp_X8_73 dX8_undo_17 ?_
    refine g_aload_n (n := 21) hC rfl dX8_undo_20 ?_
    refine m_get (v := .int (nI 1)) (n := 24) hC hD gf_X8_73 dX8_undo_21 rfl ?_
    refine g_iconst (n := 25) (v := (nI 1)) hC (by decide) dX8_undo_24 ?_
    refine g_icmp_neN (n := 28) (tgt := 30) hC (by decide) (by decide) dX8_undo_25 (fun h9 => absurd h9 (by decide)) (fun _ => ?_)
    refine g_iconst (n := 29) (v := (nI 0)) hC (by decide) dX8_undo_28 ?_
    exact g_iret hC dX8_undo_29 (⟨rfl, rfl, (Or.inl ⟨h9, rfl, rfl⟩)⟩)

set_option maxRecDepth 20000 in
theorem M_isOver (K : GK) {M : Nat} {sc : Nat → Int32} {ar : Nat → Nat → Int32} {σ0 : GS} {L : List Nat} {z : Nat} (hD : mdom M L) {w h : Nat} (hB : mB sc w h) : gT K yX8_isOver cX8_isOver 1 (some .boolean) 4 [.ref M] z L (mdl K M sc ar σ0) (some (.int (bI (ovF (ar 5) (w * h))))) (mdl K M (va_up sc 0 (nI 0)) ar σ0) := by
  obtain ⟨hw, hh, hw1, hw2, hh1, hh2⟩ := id hB
  have hn : w * h ≤ 49 := Nat.mul_le_mul hw2 hh2
  have hn1 : 16 ≤ w * h := Nat.mul_le_mul hw1 hh1
  refine g_intro [some (.ref M)] (fun Γ hC => ?_) (by simp [g_en, lv_args, Value.category])
  refine g_aload_n (n := 1) hC rfl dX8_isOver_0 ?_
  refine g_iconst (n := 2) (v := (nI 0)) hC (by decide) dX8_isOver_1 ?_
  refine m_put0 (n := 5) hC hD gp_X8_73 dX8_isOver_2 ?_
  refine g_aload_n (n := 6) hC rfl dX8_isOver_5 ?_
  refine g_cV (n := 9) hC gv_X8_170 (hD 0 (by decide)) mdl_0 (M_over K hD (show mB (va_up sc 0 (nI 0)) w h from hB)) dX8_isOver_6 ?_
  exact g_zret hC (bI_n) dX8_isOver_9 (⟨by first | rfl | (simp [*]; done), rfl, rfl, rfl⟩)

set_option maxRecDepth 20000 in
theorem M_levels (K : GK) {M : Nat} {sc : Nat → Int32} {ar : Nat → Nat → Int32} {σ0 : GS} {L : List Nat} {z : Nat} (hD : mdom M L)  : gT K yX8_levels cX8_levels 1 (some .int) 0 [.ref M] z L (mdl K M sc ar σ0) (some (.int (sc 27))) (mdl K M (va_up sc 0 (nI 0)) ar σ0) := by
  refine g_intro [some (.ref M)] (fun Γ hC => ?_) (by simp [g_en, lv_args, Value.category])
  refine g_aload_n (n := 1) hC rfl dX8_levels_0 ?_
  refine g_iconst (n := 2) (v := (nI 0)) hC (by decide) dX8_levels_1 ?_
  refine m_put0 (n := 5) hC hD gp_X8_73 dX8_levels_2 ?_
  refine g_aload_n (n := 6) hC rfl dX8_levels_5 ?_
  refine m_get (v := .int (sc 27)) (n := 9) hC hD gf_X8_154 dX8_levels_6 rfl ?_
  exact g_iret hC dX8_levels_9 (⟨by first | rfl | (simp [*]; done), rfl, rfl, rfl⟩)

set_option maxRecDepth 20000 in
set_option maxHeartbeats 1000000 in
theorem M_regions (K : GK) {M : Nat} {sc : Nat → Int32} {ar : Nat → Nat → Int32} {σ0 : GS} {L : List Nat} {z : Nat} (hD : mdom M L) {w h : Nat} (hB : mB sc w h) {p g : Nat} (hp : p ≤ 1) (hg : g ≤ 1) : gT K yX8_regions cX8_regions 9 (some .int) 4 [.ref M, .int (nI p), .int (nI g)] z L (mdl K M sc ar σ0) (some (.int (nI (if g = 0 then rgC w h (outF (ar 5) (w * h) p) (w * h) else rgM w h (outF (ar 5) (w * h) p) (w * h))))) (mdl K M sc ar σ0) := by
  obtain ⟨hw, hh, hw1, hw2, hh1, hh2⟩ := id hB
  have hn : w * h ≤ 49 := Nat.mul_le_mul hw2 hh2
  have hn1 : 16 ≤ w * h := Nat.mul_le_mul hw1 hh1
  have hX : ∀ i, tb (outF (ar 5) (w * h) p) i = true → i < w * h := fun i hi => outF_lt (by omega) hi
  refine g_intro [some (.ref M), some (.int (nI p)), some (.int (nI g)), none, none, none, none, none, none] (fun Γ hC => ?_) (by simp [g_en, lv_args, Value.category])
  refine g_aload_n (n := 1) hC rfl dX8_regions_0 ?_
  refine g_iload_n (n := 2) hC rfl dX8_regions_1 ?_
  refine g_cV (n := 5) hC gv_X8_111 (hD 0 (by decide)) mdl_0 (M_outside K hD hB (p := p) (by omega)) dX8_regions_2 ?_
  refine g_lstore_n (n := 6) (ll1 := [some (.ref M), some (.int (nI p)), some (.int (nI g)), some (.long (outF (ar 5) (w * h) p)), none, none, none, none, none]) hC dX8_regions_5 rfl ?_
  refine g_iconst (n := 7) (v := (nI 0)) hC (by decide) dX8_regions_6 ?_
  refine g_istore (n := 9) (ll1 := [some (.ref M), some (.int (nI p)), some (.int (nI g)), some (.long (outF (ar 5) (w * h) p)), none, some (.int (nI 0)), none, none, none]) hC dX8_regions_7 rfl ?_
  refine g_iconst (n := 10) (v := (nI 0)) hC (by decide) dX8_regions_9 ?_
  refine g_istore (n := 12) (ll1 := [some (.ref M), some (.int (nI p)), some (.int (nI g)), some (.long (outF (ar 5) (w * h) p)), none, some (.int (nI 0)), some (.int (nI 0)), none, none]) hC dX8_regions_10 rfl ?_
  have lp12 : ∀ (n9 : Nat) (c : Nat) (hc : c ≤ w * h) (hdone : ∀ i, i < c → tb ((outF (ar 5) (w * h) p) &&& (rgY w h (outF (ar 5) (w * h) p) c ^^^ (-1))) i = false) (y3 : Int64) (ey3 : y3 = ((outF (ar 5) (w * h) p) &&& (rgY w h (outF (ar 5) (w * h) p) c ^^^ (-1)))) (y5 : Int32) (ey5 : y5 = (nI (rgC w h (outF (ar 5) (w * h) p) c))) (y6 : Int32) (ey6 : y6 = (nI (rgM w h (outF (ar 5) (w * h) p) c))) (hm9 : w * h - c < n9), G K Γ (z, 0, 0, L) (mdl K M sc ar σ0) 12 [some (.ref M), some (.int (nI p)), some (.int (nI g)), some (.long y3), none, some (.int y5), some (.int y6), none, none] [] := by
    intro n9
    induction n9 with
    | zero =>
      intro c hc hdone y3 ey3 y5 ey5 y6 ey6 hm9
      exact absurd hm9 (Nat.not_lt_zero _)
    | succ n9 ih12 =>
      intro c hc hdone y3 ey3 y5 ey5 y6 ey6 hm9
      subst ey3
      subst ey5
      subst ey6
      refine g_lload_n (n := 13) hC rfl dX8_regions_12 ?_
      refine g_lconst (n := 14) (v := 0) hC (by decide) dX8_regions_13 ?_
      refine g_lcmp_eq (n := 18) (tgt := 66) hC dX8_regions_14 dX8_regions_15 (fun h14 => ?_) (fun h14 => ?_)
      ·
        refine g_iload_n (n := 67) hC rfl dX8_regions_66 ?_
        refine g_if_eqN (n := 70) (tgt := 75) hC (by omega) dX8_regions_67 (fun h67 => ?_) (fun h67 => ?_)
        ·
          refine g_iload (n := 77) hC rfl dX8_regions_75 ?_
          exact g_iret hC dX8_regions_77 (⟨rI (by obtain ⟨z1, z2, z3⟩ := rgY_to hc (fun i _ => by rw [h14, tb_0]); rw [if_pos h67, z2]), rfl, rfl, rfl⟩)
        ·
          refine g_iload (n := 72) hC rfl dX8_regions_70 ?_
          refine g_goto (n := 77) hC dX8_regions_72 ?_
          exact g_iret hC dX8_regions_77 (⟨rI (by obtain ⟨z1, z2, z3⟩ := rgY_to hc (fun i _ => by rw [h14, tb_0]); rw [if_neg h67, z3]), rfl, rfl, rfl⟩)
      ·
        obtain ⟨m, hm, hl⟩ := low_ex h14
        have hyc := rgY_clo (by omega) (by omega) hX c
        obtain ⟨hmX, hmy⟩ := tb_less.mp hm
        have hXy : ∀ i, tb ((outF (ar 5) (w * h) p) &&& (rgY w h (outF (ar 5) (w * h) p) c ^^^ (-1))) i = true → i < w * h := fun i hi => hX i (tb_less.mp hi).1
        have hmn : m < w * h := hX m hmX
        have hcm : c ≤ m := by
          rcases Nat.lt_or_ge m c with q | q
          · rw [hdone m q] at hm
            cases hm
          · exact q
        obtain ⟨y1, y2, y3⟩ := rgY_to hcm hl
        have hpk : tb (outF (ar 5) (w * h) p) m = true ∧ tb (rgY w h (outF (ar 5) (w * h) p) m) m = false := ⟨hmX, by rw [y1]; exact hmy⟩
        obtain ⟨k1, k2, k3⟩ := rgY_pick hpk
        have hcl := rgC_le (w := w) (h := h) (x := outF (ar 5) (w * h) p) c
        have hml := rgM_le (w := w) (h := h) (x := outF (ar 5) (w * h) p) c
        have hsz := ct_le (tb (rgn w h (outF (ar 5) (w * h) p) m)) 49
        refine g_aload_n (n := 19) hC rfl dX8_regions_18 ?_
        refine g_lload_n (n := 20) hC rfl dX8_regions_19 ?_
        refine g_lload_n (n := 21) hC rfl dX8_regions_20 ?_
        refine g_cS (n := 24) hC gs_X8_117 (M_lowest K hD hm hl) dX8_regions_21 ?_
        refine g_cV (n := 27) hC gv_X8_121 (hD 0 (by decide)) mdl_0 (M_connected K hD hB hXy hm) dX8_regions_24 ?_
        refine G.eql (rgn_less (by omega) (by omega) hX hyc.2 hmX hmy) ?_
        refine g_lstore (n := 29) (ll1 := [some (.ref M), some (.int (nI p)), some (.int (nI g)), some (.long ((outF (ar 5) (w * h) p) &&& (rgY w h (outF (ar 5) (w * h) p) c ^^^ (-1)))), none, some (.int (nI (rgC w h (outF (ar 5) (w * h) p) c))), some (.int (nI (rgM w h (outF (ar 5) (w * h) p) c))), some (.long (rgn w h (outF (ar 5) (w * h) p) m)), none]) hC dX8_regions_27 rfl ?_
        refine g_lload_n (n := 30) hC rfl dX8_regions_29 ?_
        refine g_lload (n := 32) hC rfl dX8_regions_30 ?_
        refine g_ldc2 (n := 35) hC gc_X8_95 dX8_regions_32 ?_
        refine g_lxor (n := 36) hC dX8_regions_35 ?_
        refine g_land (n := 37) hC dX8_regions_36 ?_
        refine g_lstore_n (n := 38) (ll1 := [some (.ref M), some (.int (nI p)), some (.int (nI g)), some (.long (((outF (ar 5) (w * h) p) &&& (rgY w h (outF (ar 5) (w * h) p) c ^^^ (-1))) &&& ((rgn w h (outF (ar 5) (w * h) p) m) ^^^ (-1)))), none, some (.int (nI (rgC w h (outF (ar 5) (w * h) p) c))), some (.int (nI (rgM w h (outF (ar 5) (w * h) p) c))), some (.long (rgn w h (outF (ar 5) (w * h) p) m)), none]) hC dX8_regions_37 rfl ?_
        refine g_iinc (n := 41) (ll1 := [some (.ref M), some (.int (nI p)), some (.int (nI g)), some (.long (((outF (ar 5) (w * h) p) &&& (rgY w h (outF (ar 5) (w * h) p) c ^^^ (-1))) &&& ((rgn w h (outF (ar 5) (w * h) p) m) ^^^ (-1)))), none, some (.int (nI ((rgC w h (outF (ar 5) (w * h) p) c) + 1))), some (.int (nI (rgM w h (outF (ar 5) (w * h) p) c))), some (.long (rgn w h (outF (ar 5) (w * h) p) m)), none]) hC dX8_regions_38 rfl (nI_inc _) rfl ?_
        refine g_lload (n := 43) hC rfl dX8_regions_41 ?_
        refine g_cS (n := 46) hC gs_X8_125 (M_size K hD) dX8_regions_43 ?_
        refine g_iload (n := 48) hC rfl dX8_regions_46 ?_
        refine g_icmp_leN (n := 51) (tgt := 59) hC (by omega) (by omega) dX8_regions_48 (fun h48 => ?_) (fun h48 => ?_)
        ·
          refine g_iload (n := 61) hC rfl dX8_regions_59 ?_
          refine g_istore (n := 63) (ll1 := [some (.ref M), some (.int (nI p)), some (.int (nI g)), some (.long (((outF (ar 5) (w * h) p) &&& (rgY w h (outF (ar 5) (w * h) p) c ^^^ (-1))) &&& ((rgn w h (outF (ar 5) (w * h) p) m) ^^^ (-1)))), none, some (.int (nI ((rgC w h (outF (ar 5) (w * h) p) c) + 1))), some (.int (nI (rgM w h (outF (ar 5) (w * h) p) c))), some (.long (rgn w h (outF (ar 5) (w * h) p) m)), none]) hC dX8_regions_61 rfl ?_
          refine g_goto (n := 12) hC dX8_regions_63 ?_
          exact G.le (ih12 (m + 1) (by omega) (by first | exact (fun i hi => absurd hi (Nat.not_lt_zero _)) | exact rg_done (by omega) (by omega) hX hmX hl y1 k1) _ (by first | exact and_not0 _ | (rw [k1, y1]; exact and_not2 _ _ _)) _ (by first | rfl | rw [k2, y2]) _ (by rw [k3, y3]; exact congrArg nI ((Nat.max_eq_left h48).symm)) (by omega)) (And.intro rfl (And.intro rfl (And.intro rfl (And.intro rfl (And.intro rfl (And.intro rfl (trivial)))))))
        ·
          refine g_lload (n := 53) hC rfl dX8_regions_51 ?_
          refine g_cS (n := 56) hC gs_X8_125 (M_size K hD) dX8_regions_53 ?_
          refine g_goto (n := 61) hC dX8_regions_56 ?_
          refine g_istore (n := 63) (ll1 := [some (.ref M), some (.int (nI p)), some (.int (nI g)), some (.long (((outF (ar 5) (w * h) p) &&& (rgY w h (outF (ar 5) (w * h) p) c ^^^ (-1))) &&& ((rgn w h (outF (ar 5) (w * h) p) m) ^^^ (-1)))), none, some (.int (nI ((rgC w h (outF (ar 5) (w * h) p) c) + 1))), some (.int (nI (ct (tb (rgn w h (outF (ar 5) (w * h) p) m)) 49))), some (.long (rgn w h (outF (ar 5) (w * h) p) m)), none]) hC dX8_regions_61 rfl ?_
          refine g_goto (n := 12) hC dX8_regions_63 ?_
          exact G.le (ih12 (m + 1) (by omega) (by first | exact (fun i hi => absurd hi (Nat.not_lt_zero _)) | exact rg_done (by omega) (by omega) hX hmX hl y1 k1) _ (by first | exact and_not0 _ | (rw [k1, y1]; exact and_not2 _ _ _)) _ (by first | rfl | rw [k2, y2]) _ (by rw [k3, y3]; exact congrArg nI ((Nat.max_eq_right (by omega)).symm)) (by omega)) (And.intro rfl (And.intro rfl (And.intro rfl (And.intro rfl (And.intro rfl (And.intro rfl (trivial)))))))
  exact lp12 _ 0 (by omega) (by first | exact (fun i hi => absurd hi (Nat.not_lt_zero _)) | exact rg_done (by omega) (by omega) hX hmX hl y1 k1) _ (by first | exact and_not0 _ | (rw [k1, y1]; exact and_not2 _ _ _)) _ (by first | rfl | rw [k2, y2]) _ (rfl) (Nat.lt_succ_self _)
