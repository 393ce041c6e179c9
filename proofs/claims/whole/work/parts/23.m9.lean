def sgC (w : Nat) (x : Int32) (j : Nat) : Int32 := if x = -1 then nI 45 else if j = 0 then nI (97 + x.toNatClampNeg % w) else nI (49 + x.toNatClampNeg / w)
def lnC (x : Int32) : Nat := if x = -1 then 1 else 2
theorem lnC_le (x : Int32) : 1 ≤ lnC x ∧ lnC x ≤ 2 := by rw [lnC]; split <;> omega
/-- the sign at place k of the text of the n rounds from i on -/
def wrG (g : Nat → Int32) (w : Nat) : Nat → Nat → Nat → Option Int32
  | 0, _, _ => none
  | n + 1, i, k => if k < lnC (g (7 * i + 0)) then some (sgC w (g (7 * i + 0)) k) else if k - lnC (g (7 * i + 0)) < lnC (g (7 * i + 1)) then some (sgC w (g (7 * i + 1)) (k - lnC (g (7 * i + 0)))) else if k - lnC (g (7 * i + 0)) - lnC (g (7 * i + 1)) = 0 then some (nI 59) else wrG g w n (i + 1) (k - lnC (g (7 * i + 0)) - lnC (g (7 * i + 1)) - 1)
theorem sgC_ch {w h : Nat} {x : Int32} {j : Nat} (hn : w * h ≤ 49) (hx : chOK (w * h) x) : ∃ c, c < 65536 ∧ sgC w x j = nI c := by
  rcases hx with rfl | ⟨x0, hx, rfl⟩
  · exact ⟨45, by decide, rfl⟩
  · have hne : ¬ nI x0 = -1 := fun q => by
      have h7 : (nI x0).toInt = -1 := by rw [q]; decide
      rw [nI_toInt (by omega)] at h7
      omega
    have h1 : (nI x0).toNatClampNeg = x0 := nI_clamp (by omega)
    have h2 := Nat.mod_le x0 w
    have h3 := Nat.div_le_self x0 w
    by_cases e : j = 0
    · exact ⟨97 + x0 % w, by omega, by rw [sgC, if_neg hne, if_pos e, h1]⟩
    · exact ⟨49 + x0 / w, by omega, by rw [sgC, if_neg hne, if_neg e, h1]⟩
section WG
variable {g : Nat → Int32} {w n i k : Nat}
theorem wrG_1 (q : k < lnC (g (7 * i + 0))) : wrG g w (n + 1) i k = some (sgC w (g (7 * i + 0)) k) := by rw [wrG, if_pos q]
theorem wrG_2 (q : ¬ k < lnC (g (7 * i + 0))) (q2 : k - lnC (g (7 * i + 0)) < lnC (g (7 * i + 1))) : wrG g w (n + 1) i k = some (sgC w (g (7 * i + 1)) (k - lnC (g (7 * i + 0)))) := by rw [wrG, if_neg q, if_pos q2]
theorem wrG_3 (q : ¬ k < lnC (g (7 * i + 0))) (q2 : ¬ k - lnC (g (7 * i + 0)) < lnC (g (7 * i + 1))) (q3 : k - lnC (g (7 * i + 0)) - lnC (g (7 * i + 1)) = 0) : wrG g w (n + 1) i k = some (nI 59) := by rw [wrG, if_neg q, if_neg q2, if_pos q3]
theorem wrG_4 (q : ¬ k < lnC (g (7 * i + 0))) (q2 : ¬ k - lnC (g (7 * i + 0)) < lnC (g (7 * i + 1))) (q3 : ¬ k - lnC (g (7 * i + 0)) - lnC (g (7 * i + 1)) = 0) : wrG g w (n + 1) i k = wrG g w n (i + 1) (k - lnC (g (7 * i + 0)) - lnC (g (7 * i + 1)) - 1) := by rw [wrG, if_neg q, if_neg q2, if_neg q3]
end WG
theorem M_lengthOfN (K : GK) {M : Nat} {sc : Nat → Int32} {ar : Nat → Nat → Int32} {σ0 : GS} {L : List Nat} {z : Nat} (hD : mdom M L) {x : Int32} : gT K yX8_lengthOf cX8_lengthOf 1 (some .int) 0 [.int x] z L (mdl K M sc ar σ0) (some (.int (nI (lnC x)))) (mdl K M sc ar σ0) := M_lengthOf K hD

set_option maxRecDepth 20000 in
theorem M_signOf (K : GK) {M : Nat} {sc : Nat → Int32} {ar : Nat → Nat → Int32} {σ0 : GS} {L : List Nat} {z : Nat} (hD : mdom M L) {w h : Nat} (hB : mB sc w h) {x : Int32} {j : Nat} (hj : j ≤ 1) (hx : chOK (w * h) x) : gT K yX8_signOf cX8_signOf 3 (some .char) 0 [.ref M, .int x, .int (nI j)] z L (mdl K M sc ar σ0) (some (.int (sgC w x j))) (mdl K M sc ar σ0) := by
  obtain ⟨hw, hh, hw1, hw2, hh1, hh2⟩ := id hB
  have hn : w * h ≤ 49 := Nat.mul_le_mul hw2 hh2
  have hn1 : 16 ≤ w * h := Nat.mul_le_mul hw1 hh1
  refine g_intro [some (.ref M), some (.int x), some (.int (nI j))] (fun Γ hC => ?_) (by simp [g_en, lv_args, Value.category])
  refine g_iload_n (n := 1) hC rfl dX8_signOf_0 ?_
  refine g_iconst (n := 2) (v := (-1)) hC (by decide) dX8_signOf_1 ?_
  refine g_icmp_ne (n := 5) (tgt := 10) hC dX8_signOf_2 (fun h2 => ?_) (fun h2 => ?_)
  ·
    obtain ⟨x0, hx1, hx2⟩ := hx.resolve_left h2
    subst hx2
    have h8 := Nat.mod_le x0 w
    have h9 := Nat.div_le_self x0 w
    have hcl : (nI x0).toNatClampNeg = x0 := nI_clamp (by omega)
    refine g_iload_n (n := 11) hC rfl dX8_signOf_10 ?_
    refine g_if_neN (n := 14) (tgt := 26) hC (by omega) dX8_signOf_11 (fun h11 => ?_) (fun h11 => ?_)
    ·
      refine g_bipush (n := 28) (v := (nI 49)) hC (by decide) dX8_signOf_26 ?_
      refine g_iload_n (n := 29) hC rfl dX8_signOf_28 ?_
      refine g_aload_n (n := 30) hC rfl dX8_signOf_29 ?_
      refine m_get (v := .int (nI w)) (n := 33) hC hD gf_X8_9 dX8_signOf_30 (congrArg (fun x => some (Value.int x)) (hw)) ?_
      refine g_idivN (n := 34) hC (by omega) (by omega) (by omega) dX8_signOf_33 ?_
      refine g_iaddN (n := 35) hC dX8_signOf_34 ?_
      refine g_i2c (n := 36) hC (i2cN (by omega)) dX8_signOf_35 ?_
      exact g_zret hC (by first | rfl | exact (pk_charN (by omega)).1) dX8_signOf_36 (⟨rI (by rw [sgC, if_neg h2, if_neg h11, hcl]), rfl, rfl, rfl⟩)
    ·
      refine g_bipush (n := 16) (v := (nI 97)) hC (by decide) dX8_signOf_14 ?_
      refine g_iload_n (n := 17) hC rfl dX8_signOf_16 ?_
      refine g_aload_n (n := 18) hC rfl dX8_signOf_17 ?_
      refine m_get (v := .int (nI w)) (n := 21) hC hD gf_X8_9 dX8_signOf_18 (congrArg (fun x => some (Value.int x)) (hw)) ?_
      refine g_irem (n := 22) hC (nI_ne0 (by omega) (by omega)) (pk_rem (by omega) (by omega) (by omega)) dX8_signOf_21 ?_
      refine g_iaddN (n := 23) hC dX8_signOf_22 ?_
      refine g_goto (n := 35) hC dX8_signOf_23 ?_
      refine g_i2c (n := 36) hC (i2cN (by omega)) dX8_signOf_35 ?_
      exact g_zret hC (by first | rfl | exact (pk_charN (by omega)).1) dX8_signOf_36 (⟨rI (by rw [sgC, if_neg h2, if_pos h11, hcl]), rfl, rfl, rfl⟩)
  ·
    refine g_bipush (n := 7) (v := (nI 45)) hC (by decide) dX8_signOf_5 ?_
    refine g_goto (n := 36) hC dX8_signOf_7 ?_
    exact g_zret hC (by first | rfl | exact (pk_charN (by omega)).1) dX8_signOf_36 (⟨rI (by rw [sgC, if_pos h2]), rfl, rfl, rfl⟩)

set_option maxRecDepth 20000 in
theorem M_writtenN (K : GK) {M : Nat} {sc : Nat → Int32} {ar : Nat → Nat → Int32} {σ0 : GS} {L : List Nat} {z : Nat} (hD : mdom M L) {w h : Nat} (hB : mB sc w h) {k0 : Nat} (hk0 : k0 < 2 ^ 31) {pl : Nat} (hpl : ar 5 153 = nI pl) (hpl60 : pl ≤ 60) (hinf : ∀ i, i < pl → ∀ s, s < 2 → chOK (w * h) (ar 9 (7 * i + s))) : gM K yX8_written cX8_written 6 (some .char) 1 0 0 [.ref M, .int (nI k0)] z L (mdl K M sc ar σ0) (fun r z1 L1 σ2 => z1 = z ∧ L1 = L ∧ ((∃ x, wrG (ar 9) w pl 0 k0 = some x ∧ r = some (.int x) ∧ σ2 = mdl K M (va_up sc 0 (nI 0)) ar σ0) ∨ (wrG (ar 9) w pl 0 k0 = none ∧ r = some (.int (nI 0)) ∧ σ2 = mdl K M (va_up sc 0 (nI 1)) ar σ0))) := by
  obtain ⟨hw, hh, hw1, hw2, hh1, hh2⟩ := id hB
  have hn : w * h ≤ 49 := Nat.mul_le_mul hw2 hh2
  have hn1 : 16 ≤ w * h := Nat.mul_le_mul hw1 hh1
  refine g_intro [some (.ref M), some (.int (nI k0)), none, none, none, none] (fun Γ hC => ?_) (by simp [g_en, lv_args, Value.category])
  refine g_aload_n (n := 1) hC rfl dX8_written_0 ?_
  refine g_iconst (n := 2) (v := (nI 0)) hC (by decide) dX8_written_1 ?_
  refine m_put0 (n := 5) hC hD gp_X8_73 dX8_written_2 ?_
  refine g_iload_n (n := 6) hC rfl dX8_written_5 ?_
  refine g_istore_n (n := 7) (ll1 := [some (.ref M), some (.int (nI k0)), some (.int (nI k0)), none, none, none]) hC dX8_written_6 rfl ?_
  refine g_iconst (n := 8) (v := (nI 0)) hC (by decide) dX8_written_7 ?_
  refine g_istore_n (n := 9) (ll1 := [some (.ref M), some (.int (nI k0)), some (.int (nI k0)), some (.int (nI 0)), none, none]) hC dX8_written_8 rfl ?_
  have lp9 : ∀ (n9 : Nat) (i : Nat) (k : Nat) (hi : i ≤ pl) (hk : k < 2 ^ 31) (hwr : wrG (ar 9) w pl 0 k0 = wrG (ar 9) w (pl - i) i k) (y2 : Int32) (ey2 : y2 = (nI k)) (y3 : Int32) (ey3 : y3 = (nI i)) (hm9 : pl - i < n9), G K Γ (z, 0, 0, L) (mdl K M (va_up sc 0 (nI 0)) ar σ0) 9 [some (.ref M), some (.int (nI k0)), some (.int y2), some (.int y3), none, none] [] := by
    intro n9
    induction n9 with
    | zero =>
      intro i k hi hk hwr y2 ey2 y3 ey3 hm9
      exact absurd hm9 (Nat.not_lt_zero _)
    | succ n9 ih9 =>
      intro i k hi hk hwr y2 ey2 y3 ey3 hm9
      subst ey2
      subst ey3
      refine g_iload_n (n := 10) hC rfl dX8_written_9 ?_
      refine g_aload_n (n := 11) hC rfl dX8_written_10 ?_
      refine m_get (v := .ref (M + 2)) (n := 14) hC hD gf_X8_20 dX8_written_11 rfl ?_
      refine g_sipush (n := 17) (v := (nI 153)) hC (by decide) dX8_written_14 ?_
      refine m_ld5 (x := (nI pl)) (n := 18) hC hD 153 dX8_written_17 (rfl) (by omega) (hpl) ?_
      refine g_icmp_geN (n := 21) (tgt := 95) hC (by omega) (by omega) dX8_written_18 (fun h18 => ?_) (fun h18 => ?_)
      ·
        refine g_aload_n (n := 96) hC rfl dX8_written_95 ?_
        refine g_iconst (n := 97) (v := (nI 1)) hC (by decide) dX8_written_96 ?_
        refine m_put0 (n := 100) hC hD gp_X8_73 dX8_written_97 ?_
        refine G.eqs mdl_ss ?_
        refine g_iconst (n := 101) (v := (nI 0)) hC (by decide) dX8_written_100 ?_
        exact g_zret hC (by rfl) dX8_written_101 (⟨rfl, rfl, (Or.inr ⟨by rw [hwr, show pl - i = 0 by omega]; rfl, rfl, rfl⟩)⟩)
      ·
        have hpi : pl - i = (pl - (i + 1)) + 1 := by omega
        refine g_iload_n (n := 22) hC rfl dX8_written_21 ?_
        refine g_if_ltN (n := 25) (tgt := 95) hC (by omega) dX8_written_22 (fun h22 => ?_) (fun h22 => ?_)
        · exact h22.elim
        ·
          refine g_iconst (n := 26) (v := (nI 0)) hC (by decide) dX8_written_25 ?_
          refine g_istore (n := 28) (ll1 := [some (.ref M), some (.int (nI k0)), some (.int (nI k)), some (.int (nI i)), some (.int (nI 0)), none]) hC dX8_written_26 rfl ?_
          refine g_iload (n := 30) hC rfl dX8_written_28 ?_
          refine g_iconst (n := 31) (v := (nI 2)) hC (by decide) dX8_written_30 ?_
          refine g_icmp_geN (n := 34) (tgt := 79) hC (by decide) (by decide) dX8_written_31 (fun h9 => absurd h9 (by decide)) (fun _ => ?_)
          refine g_aload_n (n := 35) hC rfl dX8_written_34 ?_
          refine m_get (v := .ref (M + 6)) (n := 38) hC hD gf_X8_32 dX8_written_35 rfl ?_
          refine g_bipush (n := 40) (v := (nI 7)) hC (by decide) dX8_written_38 ?_
          refine g_iload_n (n := 41) hC rfl dX8_written_40 ?_
          refine g_imulN (n := 42) hC dX8_written_41 ?_
          refine g_iload (n := 44) hC rfl dX8_written_42 ?_
          refine g_iaddN (n := 45) hC dX8_written_44 ?_
          refine m_ld9 (x := ((ar 9) ((7 * i) + 0))) (n := 46) hC hD ((7 * i) + 0) dX8_written_45 (rfl) (by omega) (rfl) ?_
          refine g_istore (n := 48) (ll1 := [some (.ref M), some (.int (nI k0)), some (.int (nI k)), some (.int (nI i)), some (.int (nI 0)), some (.int ((ar 9) ((7 * i) + 0)))]) hC dX8_written_46 rfl ?_
          refine g_iload_n (n := 49) hC rfl dX8_written_48 ?_
          refine g_iload (n := 51) hC rfl dX8_written_49 ?_
          refine g_cS (n := 54) hC gs_X8_242 (M_lengthOfN K hD) dX8_written_51 ?_
          have hl0 := lnC_le ((ar 9) ((7 * i) + 0))
          refine g_icmp_geN (n := 57) (tgt := 65) hC (by omega) (by omega) dX8_written_54 (fun h54 => ?_) (fun h54 => ?_)
          ·
            have e54_0 := h54
            refine g_iload_n (n := 66) hC rfl dX8_written_65 ?_
            refine g_iload (n := 68) hC rfl dX8_written_66 ?_
            refine g_cS (n := 71) hC gs_X8_242 (M_lengthOfN K hD) dX8_written_68 ?_
            have hl1 := lnC_le ((ar 9) ((7 * i) + 0))
            refine g_isubN (n := 72) hC (by omega) dX8_written_71 ?_
            refine g_istore_n (n := 73) (ll1 := [some (.ref M), some (.int (nI k0)), some (.int (nI (k - (lnC ((ar 9) ((7 * i) + 0)))))), some (.int (nI i)), some (.int (nI 0)), some (.int ((ar 9) ((7 * i) + 0)))]) hC dX8_written_72 rfl ?_
            refine g_iinc (n := 76) (ll1 := [some (.ref M), some (.int (nI k0)), some (.int (nI (k - (lnC ((ar 9) ((7 * i) + 0)))))), some (.int (nI i)), some (.int (nI 1)), some (.int ((ar 9) ((7 * i) + 0)))]) hC dX8_written_73 rfl (nI_inc _) rfl ?_
            refine g_goto (n := 28) hC dX8_written_76 ?_
            refine g_iload (n := 30) hC rfl dX8_written_28 ?_
            refine g_iconst (n := 31) (v := (nI 2)) hC (by decide) dX8_written_30 ?_
            refine g_icmp_geN (n := 34) (tgt := 79) hC (by decide) (by decide) dX8_written_31 (fun h9 => absurd h9 (by decide)) (fun _ => ?_)
            refine g_aload_n (n := 35) hC rfl dX8_written_34 ?_
            refine m_get (v := .ref (M + 6)) (n := 38) hC hD gf_X8_32 dX8_written_35 rfl ?_
            refine g_bipush (n := 40) (v := (nI 7)) hC (by decide) dX8_written_38 ?_
            refine g_iload_n (n := 41) hC rfl dX8_written_40 ?_
            refine g_imulN (n := 42) hC dX8_written_41 ?_
            refine g_iload (n := 44) hC rfl dX8_written_42 ?_
            refine g_iaddN (n := 45) hC dX8_written_44 ?_
            refine m_ld9 (x := ((ar 9) ((7 * i) + 1))) (n := 46) hC hD ((7 * i) + 1) dX8_written_45 (rfl) (by omega) (rfl) ?_
            refine g_istore (n := 48) (ll1 := [some (.ref M), some (.int (nI k0)), some (.int (nI (k - (lnC ((ar 9) ((7 * i) + 0)))))), some (.int (nI i)), some (.int (nI 1)), some (.int ((ar 9) ((7 * i) + 1)))]) hC dX8_written_46 rfl ?_
            refine g_iload_n (n := 49) hC rfl dX8_written_48 ?_
            refine g_iload (n := 51) hC rfl dX8_written_49 ?_
            refine g_cS (n := 54) hC gs_X8_242 (M_lengthOfN K hD) dX8_written_51 ?_
            have hl1 := lnC_le ((ar 9) ((7 * i) + 1))
            refine g_icmp_geN (n := 57) (tgt := 65) hC (by omega) (by omega) dX8_written_54 (fun h54 => ?_) (fun h54 => ?_)
            ·
              have e54_1 := h54
              refine g_iload_n (n := 66) hC rfl dX8_written_65 ?_
              refine g_iload (n := 68) hC rfl dX8_written_66 ?_
              refine g_cS (n := 71) hC gs_X8_242 (M_lengthOfN K hD) dX8_written_68 ?_
              have hl2 := lnC_le ((ar 9) ((7 * i) + 1))
              refine g_isubN (n := 72) hC (by omega) dX8_written_71 ?_
              refine g_istore_n (n := 73) (ll1 := [some (.ref M), some (.int (nI k0)), some (.int (nI ((k - (lnC ((ar 9) ((7 * i) + 0)))) - (lnC ((ar 9) ((7 * i) + 1)))))), some (.int (nI i)), some (.int (nI 1)), some (.int ((ar 9) ((7 * i) + 1)))]) hC dX8_written_72 rfl ?_
              refine g_iinc (n := 76) (ll1 := [some (.ref M), some (.int (nI k0)), some (.int (nI ((k - (lnC ((ar 9) ((7 * i) + 0)))) - (lnC ((ar 9) ((7 * i) + 1)))))), some (.int (nI i)), some (.int (nI 2)), some (.int ((ar 9) ((7 * i) + 1)))]) hC dX8_written_73 rfl (nI_inc _) rfl ?_
              refine g_goto (n := 28) hC dX8_written_76 ?_
              refine g_iload (n := 30) hC rfl dX8_written_28 ?_
              refine g_iconst (n := 31) (v := (nI 2)) hC (by decide) dX8_written_30 ?_
              refine g_icmp_geN (n := 34) (tgt := 79) hC (by decide) (by decide) dX8_written_31 (fun _ => ?_) (fun h9 => absurd h9 (by decide))
              refine g_iload_n (n := 80) hC rfl dX8_written_79 ?_
              refine g_if_neN (n := 83) (tgt := 86) hC (by omega) dX8_written_80 (fun h80 => ?_) (fun h80 => ?_)
              ·
                refine g_iinc (n := 89) (ll1 := [some (.ref M), some (.int (nI k0)), some (.int (nI (((k - (lnC ((ar 9) ((7 * i) + 0)))) - (lnC ((ar 9) ((7 * i) + 1)))) - 1))), some (.int (nI i)), some (.int (nI 2)), some (.int ((ar 9) ((7 * i) + 1)))]) hC dX8_written_86 rfl (nI_dec (by omega)) rfl ?_
                refine g_iinc (n := 92) (ll1 := [some (.ref M), some (.int (nI k0)), some (.int (nI (((k - (lnC ((ar 9) ((7 * i) + 0)))) - (lnC ((ar 9) ((7 * i) + 1)))) - 1))), some (.int (nI (i + 1))), some (.int (nI 2)), some (.int ((ar 9) ((7 * i) + 1)))]) hC dX8_written_89 rfl (nI_inc _) rfl ?_
                refine g_goto (n := 9) hC dX8_written_92 ?_
                exact G.le (ih9 (i + 1) (k - lnC (ar 9 (7 * i + 0)) - lnC (ar 9 (7 * i + 1)) - 1) (by omega) (by omega) (by first | rfl | (rw [hwr, hpi]; exact wrG_4 (Nat.not_lt.mpr e54_0) (Nat.not_lt.mpr e54_1) h80)) _ (by first | rfl | (simp [*]; done)) _ (by first | rfl | (simp [*]; done)) (by omega)) (And.intro rfl (And.intro rfl (And.intro rfl (And.intro rfl (trivial)))))
              ·
                refine g_bipush (n := 85) (v := (nI 59)) hC (by decide) dX8_written_83 ?_
                exact g_zret hC (by rfl) dX8_written_85 (⟨rfl, rfl, (Or.inl ⟨_, by rw [hwr, hpi]; exact wrG_3 (Nat.not_lt.mpr e54_0) (Nat.not_lt.mpr e54_1) h80, rfl, rfl⟩)⟩)
            ·
              have e54_1 := h54
              refine g_aload_n (n := 58) hC rfl dX8_written_57 ?_
              refine g_iload (n := 60) hC rfl dX8_written_58 ?_
              refine g_iload_n (n := 61) hC rfl dX8_written_60 ?_
              refine g_cV (n := 64) hC gv_X8_245 (hD 0 (by decide)) mdl_0 (M_signOf K hD (show mB (va_up sc 0 (nI 0)) w h from hB) (x := ((ar 9) ((7 * i) + 1))) (j := k - (lnC ((ar 9) ((7 * i) + 0)))) (by omega) (hinf i (by omega) 1 (by omega))) dX8_written_61 ?_
              exact g_zret hC (by obtain ⟨c9, hc9, e9⟩ := sgC_ch (j := _) hn (hinf i (by omega) _ (by omega)); rw [e9]; exact (pk_charN hc9).1) dX8_written_64 (⟨rfl, rfl, (Or.inl ⟨_, by rw [hwr, hpi]; exact wrG_2 (Nat.not_lt.mpr e54_0) e54_1, rfl, rfl⟩)⟩)
          ·
            have e54_0 := h54
            refine g_aload_n (n := 58) hC rfl dX8_written_57 ?_
            refine g_iload (n := 60) hC rfl dX8_written_58 ?_
            refine g_iload_n (n := 61) hC rfl dX8_written_60 ?_
            refine g_cV (n := 64) hC gv_X8_245 (hD 0 (by decide)) mdl_0 (M_signOf K hD (show mB (va_up sc 0 (nI 0)) w h from hB) (x := ((ar 9) ((7 * i) + 0))) (j := k) (by omega) (hinf i (by omega) 0 (by omega))) dX8_written_61 ?_
            exact g_zret hC (by obtain ⟨c9, hc9, e9⟩ := sgC_ch (j := _) hn (hinf i (by omega) _ (by omega)); rw [e9]; exact (pk_charN hc9).1) dX8_written_64 (⟨rfl, rfl, (Or.inl ⟨_, by rw [hwr, hpi]; exact wrG_1 e54_0, rfl, rfl⟩)⟩)
  exact lp9 _ 0 k0 (by omega) (by omega) (by first | rfl | (rw [hwr, hpi]; exact wrG_4 (Nat.not_lt.mpr e54_0) (Nat.not_lt.mpr e54_1) h80)) _ (by first | rfl | (simp [*]; done)) _ (by first | rfl | (simp [*]; done)) (Nat.lt_succ_self _)

set_option maxRecDepth 20000 in
theorem M_writtenG (K : GK) {M : Nat} {sc : Nat → Int32} {ar : Nat → Nat → Int32} {σ0 : GS} {L : List Nat} {z : Nat} (hD : mdom M L) {w h : Nat} (hB : mB sc w h) {x : Int32} (hx : x < 0) {pl : Nat} (hpl : ar 5 153 = nI pl) (hpl60 : pl ≤ 60) : gT K yX8_written cX8_written 6 (some .char) 1 [.ref M, .int x] z L (mdl K M sc ar σ0) (some (.int (nI 0))) (mdl K M (va_up sc 0 (nI 1)) ar σ0) := by
  obtain ⟨hw, hh, hw1, hw2, hh1, hh2⟩ := id hB
  have hn : w * h ≤ 49 := Nat.mul_le_mul hw2 hh2
  have hn1 : 16 ≤ w * h := Nat.mul_le_mul hw1 hh1
  refine g_intro [some (.ref M), some (.int x), none, none, none, none] (fun Γ hC => ?_) (by simp [g_en, lv_args, Value.category])
  refine g_aload_n (n := 1) hC rfl dX8_written_0 ?_
  refine g_iconst (n := 2) (v := (nI 0)) hC (by decide) dX8_written_1 ?_
  refine m_put0 (n := 5) hC hD gp_X8_73 dX8_written_2 ?_
  refine g_iload_n (n := 6) hC rfl dX8_written_5 ?_
  refine g_istore_n (n := 7) (ll1 := [some (.ref M), some (.int x), some (.int x), none, none, none]) hC dX8_written_6 rfl ?_
  refine g_iconst (n := 8) (v := (nI 0)) hC (by decide) dX8_written_7 ?_
  refine g_istore_n (n := 9) (ll1 := [some (.ref M), some (.int x), some (.int x), some (.int (nI 0)), none, none]) hC dX8_written_8 rfl ?_
  refine g_iload_n (n := 10) hC rfl dX8_written_9 ?_
  refine g_aload_n (n := 11) hC rfl dX8_written_10 ?_
  refine m_get (v := .ref (M + 2)) (n := 14) hC hD gf_X8_20 dX8_written_11 rfl ?_
  refine g_sipush (n := 17) (v := (nI 153)) hC (by decide) dX8_written_14 ?_
  refine m_ld5 (x := (nI pl)) (n := 18) hC hD 153 dX8_written_17 (rfl) (by omega) (hpl) ?_
  refine g_icmp_geN (n := 21) (tgt := 95) hC (by omega) (by omega) dX8_written_18 (fun h18 => ?_) (fun h18 => ?_)
  ·
    refine g_aload_n (n := 96) hC rfl dX8_written_95 ?_
    refine g_iconst (n := 97) (v := (nI 1)) hC (by decide) dX8_written_96 ?_
    refine m_put0 (n := 100) hC hD gp_X8_73 dX8_written_97 ?_
    refine G.eqs mdl_ss ?_
    refine g_iconst (n := 101) (v := (nI 0)) hC (by decide) dX8_written_100 ?_
    exact g_zret hC (by rfl) dX8_written_101 (⟨by first | rfl | (simp [*]; done), rfl, rfl, rfl⟩)
  ·
    refine g_iload_n (n := 22) hC rfl dX8_written_21 ?_
    refine g_if_lt (n := 25) (tgt := 95) hC dX8_written_22 (fun h22 => ?_) (fun h22 => absurd hx h22)
    refine g_aload_n (n := 96) hC rfl dX8_written_95 ?_
    refine g_iconst (n := 97) (v := (nI 1)) hC (by decide) dX8_written_96 ?_
    refine m_put0 (n := 100) hC hD gp_X8_73 dX8_written_97 ?_
    refine G.eqs mdl_ss ?_
    refine g_iconst (n := 101) (v := (nI 0)) hC (by decide) dX8_written_100 ?_
    exact g_zret hC (by rfl) dX8_written_101 (⟨by first | rfl | (simp [*]; done), rfl, rfl, rfl⟩)

set_option maxRecDepth 20000 in
theorem M_save (K : GK) {M : Nat} {sc : Nat → Int32} {ar : Nat → Nat → Int32} {σ0 : GS} {L : List Nat} {z : Nat} (hD : mdom M L) {w h : Nat} (hB : mB sc w h) {pl : Nat} (hpl : ar 5 153 = nI pl) (hpl60 : pl ≤ 60) : gT K yX8_save cX8_save 1 (some .int) 1 [.ref M] z L (mdl K M sc ar σ0) (some (.int (nI pl))) (mdl K M (va_up (va_up (va_up (va_up (va_up sc 0 (nI 0)) 16 (nI w)) 17 (nI h)) 18 (sc 3)) 19 (nI 1)) (va_up (va_up (va_up (va_up (va_up ar 11 (cpF (ar 5) (ar 11) 155)) 12 (cpF (ar 8) (ar 12) (155 * pl))) 13 (cpF (ar 9) (ar 13) (7 * pl))) 14 (cpF (ar 10) (ar 14) (8 * pl))) 15 (cpF (ar 4) (ar 15) 2)) σ0) := by
  obtain ⟨hw, hh, hw1, hw2, hh1, hh2⟩ := id hB
  have hn : w * h ≤ 49 := Nat.mul_le_mul hw2 hh2
  have hn1 : 16 ≤ w * h := Nat.mul_le_mul hw1 hh1
  refine g_intro [some (.ref M)] (fun Γ hC => ?_) (by simp [g_en, lv_args, Value.category])
  refine g_aload_n (n := 1) hC rfl dX8_save_0 ?_
  refine g_iconst (n := 2) (v := (nI 0)) hC (by decide) dX8_save_1 ?_
  refine m_put0 (n := 5) hC hD gp_X8_73 dX8_save_2 ?_
  refine g_aload_n (n := 6) hC rfl dX8_save_5 ?_
  refine m_get (v := .ref (M + 2)) (n := 9) hC hD gf_X8_20 dX8_save_6 rfl ?_
  refine g_aload_n (n := 10) hC rfl dX8_save_9 ?_
  refine m_get (v := .ref (M + 8)) (n := 13) hC hD gf_X8_38 dX8_save_10 rfl ?_
  refine g_sipush (n := 16) (v := (nI 155)) hC (by decide) dX8_save_13 ?_
  refine g_cSv (n := 19) hC gs_X8_192 (M_copies K (n := 155) (m := 155) (k := 155) (f := (ar 5)) (g := (ar 11)) (hD 2 (by decide)) (hD 8 (by decide)) (by omega) mdl_5 mdl_11 (by omega) (by omega) (by decide) (by decide)) dX8_save_16 ?_
  refine G.eqs mdl_s11 ?_
  refine g_aload_n (n := 20) hC rfl dX8_save_19 ?_
  refine m_get (v := .ref (M + 5)) (n := 23) hC hD gf_X8_29 dX8_save_20 rfl ?_
  refine g_aload_n (n := 24) hC rfl dX8_save_23 ?_
  refine m_get (v := .ref (M + 9)) (n := 27) hC hD gf_X8_41 dX8_save_24 rfl ?_
  refine g_sipush (n := 30) (v := (nI 155)) hC (by decide) dX8_save_27 ?_
  refine g_aload_n (n := 31) hC rfl dX8_save_30 ?_
  refine m_get (v := .ref (M + 2)) (n := 34) hC hD gf_X8_20 dX8_save_31 rfl ?_
  refine g_sipush (n := 37) (v := (nI 153)) hC (by decide) dX8_save_34 ?_
  refine m_ld5 (x := (nI pl)) (n := 38) hC hD 153 dX8_save_37 (rfl) (by omega) (hpl) ?_
  refine g_imulN (n := 39) hC dX8_save_38 ?_
  refine g_cSv (n := 42) hC gs_X8_192 (M_copies K (n := 9300) (m := 9300) (k := 155 * pl) (f := (ar 8)) (g := (ar 12)) (hD 5 (by decide)) (hD 9 (by decide)) (by omega) mdl_8 mdl_12 (by omega) (by omega) (by decide) (by decide)) dX8_save_39 ?_
  refine G.eqs mdl_s12 ?_
  refine g_aload_n (n := 43) hC rfl dX8_save_42 ?_
  refine m_get (v := .ref (M + 6)) (n := 46) hC hD gf_X8_32 dX8_save_43 rfl ?_
  refine g_aload_n (n := 47) hC rfl dX8_save_46 ?_
  refine m_get (v := .ref (M + 10)) (n := 50) hC hD gf_X8_44 dX8_save_47 rfl ?_
  refine g_bipush (n := 52) (v := (nI 7)) hC (by decide) dX8_save_50 ?_
  refine g_aload_n (n := 53) hC rfl dX8_save_52 ?_
  refine m_get (v := .ref (M + 2)) (n := 56) hC hD gf_X8_20 dX8_save_53 rfl ?_
  refine g_sipush (n := 59) (v := (nI 153)) hC (by decide) dX8_save_56 ?_
  refine m_ld5 (x := (nI pl)) (n := 60) hC hD 153 dX8_save_59 (rfl) (by omega) (hpl) ?_
  refine g_imulN (n := 61) hC dX8_save_60 ?_
  refine g_cSv (n := 64) hC gs_X8_192 (M_copies K (n := 420) (m := 420) (k := 7 * pl) (f := (ar 9)) (g := (ar 13)) (hD 6 (by decide)) (hD 10 (by decide)) (by omega) mdl_9 mdl_13 (by omega) (by omega) (by decide) (by decide)) dX8_save_61 ?_
  refine G.eqs mdl_s13 ?_
  refine g_aload_n (n := 65) hC rfl dX8_save_64 ?_
  refine m_get (v := .ref (M + 7)) (n := 68) hC hD gf_X8_35 dX8_save_65 rfl ?_
  refine g_aload_n (n := 69) hC rfl dX8_save_68 ?_
  refine m_get (v := .ref (M + 11)) (n := 72) hC hD gf_X8_47 dX8_save_69 rfl ?_
  refine g_bipush (n := 74) (v := (nI 8)) hC (by decide) dX8_save_72 ?_
  refine g_aload_n (n := 75) hC rfl dX8_save_74 ?_
  refine m_get (v := .ref (M + 2)) (n := 78) hC hD gf_X8_20 dX8_save_75 rfl ?_
  refine g_sipush (n := 81) (v := (nI 153)) hC (by decide) dX8_save_78 ?_
  refine m_ld5 (x := (nI pl)) (n := 82) hC hD 153 dX8_save_81 (rfl) (by omega) (hpl) ?_
  refine g_imulN (n := 83) hC dX8_save_82 ?_
  refine g_cSv (n := 86) hC gs_X8_192 (M_copies K (n := 480) (m := 480) (k := 8 * pl) (f := (ar 10)) (g := (ar 14)) (hD 7 (by decide)) (hD 11 (by decide)) (by omega) mdl_10 mdl_14 (by omega) (by omega) (by decide) (by decide)) dX8_save_83 ?_
  refine G.eqs mdl_s14 ?_
  refine g_aload_n (n := 87) hC rfl dX8_save_86 ?_
  refine m_get (v := .ref (M + 1)) (n := 90) hC hD gf_X8_16 dX8_save_87 rfl ?_
  refine g_aload_n (n := 91) hC rfl dX8_save_90 ?_
  refine m_get (v := .ref (M + 12)) (n := 94) hC hD gf_X8_50 dX8_save_91 rfl ?_
  refine g_iconst (n := 95) (v := (nI 2)) hC (by decide) dX8_save_94 ?_
  refine g_cSv (n := 98) hC gs_X8_192 (M_copies K (n := 2) (m := 2) (k := 2) (f := (ar 4)) (g := (ar 15)) (hD 1 (by decide)) (hD 12 (by decide)) (by omega) mdl_4 mdl_15 (by omega) (by omega) (by decide) (by decide)) dX8_save_95 ?_
  refine G.eqs mdl_s15 ?_
  refine g_aload_n (n := 99) hC rfl dX8_save_98 ?_
  refine g_aload_n (n := 100) hC rfl dX8_save_99 ?_
  refine m_get (v := .int (nI w)) (n := 103) hC hD gf_X8_9 dX8_save_100 (congrArg (fun x => some (Value.int x)) (hw)) ?_
  refine m_put16 (n := 106) hC hD gp_X8_249 dX8_save_103 ?_
  refine g_aload_n (n := 107) hC rfl dX8_save_106 ?_
  refine g_aload_n (n := 108) hC rfl dX8_save_107 ?_
  refine m_get (v := .int (nI h)) (n := 111) hC hD gf_X8_13 dX8_save_108 (congrArg (fun x => some (Value.int x)) (hh)) ?_
  refine m_put17 (n := 114) hC hD gp_X8_252 dX8_save_111 ?_
  refine g_aload_n (n := 115) hC rfl dX8_save_114 ?_
  refine g_aload_n (n := 116) hC rfl dX8_save_115 ?_
  refine m_get (v := .int (sc 3)) (n := 119) hC hD gf_X8_88 dX8_save_116 rfl ?_
  refine m_put18 (n := 122) hC hD gp_X8_255 dX8_save_119 ?_
  refine g_aload_n (n := 123) hC rfl dX8_save_122 ?_
  refine g_iconst (n := 124) (v := (nI 1)) hC (by decide) dX8_save_123 ?_
  refine m_put19 (n := 127) hC hD (⟨by rfl, by rfl⟩) gp_X8_258 dX8_save_124 ?_
  refine g_aload_n (n := 128) hC rfl dX8_save_127 ?_
  refine m_get (v := .ref (M + 2)) (n := 131) hC hD gf_X8_20 dX8_save_128 rfl ?_
  refine g_sipush (n := 134) (v := (nI 153)) hC (by decide) dX8_save_131 ?_
  refine m_ld5 (x := (nI pl)) (n := 135) hC hD 153 dX8_save_134 (rfl) (by omega) (hpl) ?_
  exact g_iret hC dX8_save_135 (⟨by first | rfl | (simp [*]; done), rfl, rfl, rfl⟩)

set_option maxRecDepth 20000 in
theorem M_restore (K : GK) {M : Nat} {sc : Nat → Int32} {ar : Nat → Nat → Int32} {σ0 : GS} {L : List Nat} {z : Nat} (hD : mdom M L) {w h : Nat} (hB : mB sc w h) {sp : Nat} (hsp : ar 11 153 = nI sp) (hsp60 : sp ≤ 60) : gM K yX8_restore cX8_restore 1 (some .int) 1 0 0 [.ref M] z L (mdl K M sc ar σ0) (fun r z1 L1 σ2 => z1 = z ∧ L1 = L ∧ ((sc 19 = 0 ∧ r = some (.int (nI 0)) ∧ σ2 = mdl K M (va_up sc 0 (nI 1)) ar σ0) ∨ (¬ sc 19 = 0 ∧ r = some (.int (nI sp)) ∧ σ2 = mdl K M (va_up (va_up (va_up (va_up sc 0 (nI 0)) 1 (sc 16)) 2 (sc 17)) 3 (sc 18)) (va_up (va_up (va_up (va_up (va_up ar 5 (cpF (ar 11) (ar 5) 155)) 8 (cpF (ar 12) (ar 8) (155 * sp))) 9 (cpF (ar 13) (ar 9) (7 * sp))) 10 (cpF (ar 14) (ar 10) (8 * sp))) 4 (cpF (ar 15) (ar 4) 2)) σ0))) := by
  obtain ⟨hw, hh, hw1, hw2, hh1, hh2⟩ := id hB
  have hn : w * h ≤ 49 := Nat.mul_le_mul hw2 hh2
  have hn1 : 16 ≤ w * h := Nat.mul_le_mul hw1 hh1
  refine g_intro [some (.ref M)] (fun Γ hC => ?_) (by simp [g_en, lv_args, Value.category])
  refine g_aload_n (n := 1) hC rfl dX8_restore_0 ?_
  refine g_aload_n (n := 2) hC rfl dX8_restore_1 ?_
  refine m_get (v := .int (sc 19)) (n := 5) hC hD gf_X8_258 dX8_restore_2 rfl ?_
  refine g_if_eq (n := 8) (tgt := 12) hC dX8_restore_5 (fun h5 => ?_) (fun h5 => ?_)
  ·
    refine g_iconst (n := 13) (v := (nI 1)) hC (by decide) dX8_restore_12 ?_
    refine m_put0 (n := 16) hC hD gp_X8_73 dX8_restore_13 ?_
    refine g_aload_n (n := 17) hC rfl dX8_restore_16 ?_
    refine m_get (v := .int (sc 19)) (n := 20) hC hD gf_X8_258 dX8_restore_17 rfl ?_
    refine g_if_ne (n := 23) (tgt := 25) hC dX8_restore_20 (fun h20 => ?_) (fun h20 => ?_)
    ·
      exact absurd h5 h20
    ·
      refine g_iconst (n := 24) (v := (nI 0)) hC (by decide) dX8_restore_23 ?_
      exact g_iret hC dX8_restore_24 (⟨rfl, rfl, (Or.inl ⟨h5, rfl, rfl⟩)⟩)
  ·
    refine g_iconst (n := 9) (v := (nI 0)) hC (by decide) dX8_restore_8 ?_
    refine g_goto (n := 13) hC dX8_restore_9 ?_
    refine m_put0 (n := 16) hC hD gp_X8_73 dX8_restore_13 ?_
    refine g_aload_n (n := 17) hC rfl dX8_restore_16 ?_
    refine m_get (v := .int (sc 19)) (n := 20) hC hD gf_X8_258 dX8_restore_17 rfl ?_
    refine g_if_ne (n := 23) (tgt := 25) hC dX8_restore_20 (fun h20 => ?_) (fun h20 => ?_)
    ·
      refine g_aload_n (n := 26) hC rfl dX8_restore_25 ?_
      refine m_get (v := .ref (M + 8)) (n := 29) hC hD gf_X8_38 dX8_restore_26 rfl ?_
      refine g_aload_n (n := 30) hC rfl dX8_restore_29 ?_
      refine m_get (v := .ref (M + 2)) (n := 33) hC hD gf_X8_20 dX8_restore_30 rfl ?_
      refine g_sipush (n := 36) (v := (nI 155)) hC (by decide) dX8_restore_33 ?_
      refine g_cSv (n := 39) hC gs_X8_192 (M_copies K (n := 155) (m := 155) (k := 155) (f := (ar 11)) (g := (ar 5)) (hD 8 (by decide)) (hD 2 (by decide)) (by omega) mdl_11 mdl_5 (by omega) (by omega) (by decide) (by decide)) dX8_restore_36 ?_
      refine G.eqs mdl_s5 ?_
      refine g_aload_n (n := 40) hC rfl dX8_restore_39 ?_
      refine m_get (v := .ref (M + 9)) (n := 43) hC hD gf_X8_41 dX8_restore_40 rfl ?_
      refine g_aload_n (n := 44) hC rfl dX8_restore_43 ?_
      refine m_get (v := .ref (M + 5)) (n := 47) hC hD gf_X8_29 dX8_restore_44 rfl ?_
      refine g_sipush (n := 50) (v := (nI 155)) hC (by decide) dX8_restore_47 ?_
      refine g_aload_n (n := 51) hC rfl dX8_restore_50 ?_
      refine m_get (v := .ref (M + 2)) (n := 54) hC hD gf_X8_20 dX8_restore_51 rfl ?_
      refine g_sipush (n := 57) (v := (nI 153)) hC (by decide) dX8_restore_54 ?_
      refine m_ld5 (x := (nI sp)) (n := 58) hC hD 153 dX8_restore_57 (rfl) (by omega) (show cpF (ar 11) (ar 5) 155 153 = nI sp from (if_pos (by decide)).trans hsp) ?_
      refine g_imulN (n := 59) hC dX8_restore_58 ?_
      refine g_cSv (n := 62) hC gs_X8_192 (M_copies K (n := 9300) (m := 9300) (k := 155 * sp) (f := (ar 12)) (g := (ar 8)) (hD 9 (by decide)) (hD 5 (by decide)) (by omega) mdl_12 mdl_8 (by omega) (by omega) (by decide) (by decide)) dX8_restore_59 ?_
      refine G.eqs mdl_s8 ?_
      refine g_aload_n (n := 63) hC rfl dX8_restore_62 ?_
      refine m_get (v := .ref (M + 10)) (n := 66) hC hD gf_X8_44 dX8_restore_63 rfl ?_
      refine g_aload_n (n := 67) hC rfl dX8_restore_66 ?_
      refine m_get (v := .ref (M + 6)) (n := 70) hC hD gf_X8_32 dX8_restore_67 rfl ?_
      refine g_bipush (n := 72) (v := (nI 7)) hC (by decide) dX8_restore_70 ?_
      refine g_aload_n (n := 73) hC rfl dX8_restore_72 ?_
      refine m_get (v := .ref (M + 2)) (n := 76) hC hD gf_X8_20 dX8_restore_73 rfl ?_
      refine g_sipush (n := 79) (v := (nI 153)) hC (by decide) dX8_restore_76 ?_
      refine m_ld5 (x := (nI sp)) (n := 80) hC hD 153 dX8_restore_79 (rfl) (by omega) (show cpF (ar 11) (ar 5) 155 153 = nI sp from (if_pos (by decide)).trans hsp) ?_
      refine g_imulN (n := 81) hC dX8_restore_80 ?_
      refine g_cSv (n := 84) hC gs_X8_192 (M_copies K (n := 420) (m := 420) (k := 7 * sp) (f := (ar 13)) (g := (ar 9)) (hD 10 (by decide)) (hD 6 (by decide)) (by omega) mdl_13 mdl_9 (by omega) (by omega) (by decide) (by decide)) dX8_restore_81 ?_
      refine G.eqs mdl_s9 ?_
      refine g_aload_n (n := 85) hC rfl dX8_restore_84 ?_
      refine m_get (v := .ref (M + 11)) (n := 88) hC hD gf_X8_47 dX8_restore_85 rfl ?_
      refine g_aload_n (n := 89) hC rfl dX8_restore_88 ?_
      refine m_get (v := .ref (M + 7)) (n := 92) hC hD gf_X8_35 dX8_restore_89 rfl ?_
      refine g_bipush (n := 94) (v := (nI 8)) hC (by decide) dX8_restore_92 ?_
      refine g_aload_n (n := 95) hC rfl dX8_restore_94 ?_
      refine m_get (v := .ref (M + 2)) (n := 98) hC hD gf_X8_20 dX8_restore_95 rfl ?_
      refine g_sipush (n := 101) (v := (nI 153)) hC (by decide) dX8_restore_98 ?_
      refine m_ld5 (x := (nI sp)) (n := 102) hC hD 153 dX8_restore_101 (rfl) (by omega) (show cpF (ar 11) (ar 5) 155 153 = nI sp from (if_pos (by decide)).trans hsp) ?_
      refine g_imulN (n := 103) hC dX8_restore_102 ?_
      refine g_cSv (n := 106) hC gs_X8_192 (M_copies K (n := 480) (m := 480) (k := 8 * sp) (f := (ar 14)) (g := (ar 10)) (hD 11 (by decide)) (hD 7 (by decide)) (by omega) mdl_14 mdl_10 (by omega) (by omega) (by decide) (by decide)) dX8_restore_103 ?_
      refine G.eqs mdl_s10 ?_
      refine g_aload_n (n := 107) hC rfl dX8_restore_106 ?_
      refine m_get (v := .ref (M + 12)) (n := 110) hC hD gf_X8_50 dX8_restore_107 rfl ?_
      refine g_aload_n (n := 111) hC rfl dX8_restore_110 ?_
      refine m_get (v := .ref (M + 1)) (n := 114) hC hD gf_X8_16 dX8_restore_111 rfl ?_
      refine g_iconst (n := 115) (v := (nI 2)) hC (by decide) dX8_restore_114 ?_
      refine g_cSv (n := 118) hC gs_X8_192 (M_copies K (n := 2) (m := 2) (k := 2) (f := (ar 15)) (g := (ar 4)) (hD 12 (by decide)) (hD 1 (by decide)) (by omega) mdl_15 mdl_4 (by omega) (by omega) (by decide) (by decide)) dX8_restore_115 ?_
      refine G.eqs mdl_s4 ?_
      refine g_aload_n (n := 119) hC rfl dX8_restore_118 ?_
      refine g_aload_n (n := 120) hC rfl dX8_restore_119 ?_
      refine m_get (v := .int (sc 16)) (n := 123) hC hD gf_X8_249 dX8_restore_120 rfl ?_
      refine m_put1 (n := 126) hC hD gp_X8_9 dX8_restore_123 ?_
      refine g_aload_n (n := 127) hC rfl dX8_restore_126 ?_
      refine g_aload_n (n := 128) hC rfl dX8_restore_127 ?_
      refine m_get (v := .int (sc 17)) (n := 131) hC hD gf_X8_252 dX8_restore_128 rfl ?_
      refine m_put2 (n := 134) hC hD gp_X8_13 dX8_restore_131 ?_
      refine g_aload_n (n := 135) hC rfl dX8_restore_134 ?_
      refine g_aload_n (n := 136) hC rfl dX8_restore_135 ?_
      refine m_get (v := .int (sc 18)) (n := 139) hC hD gf_X8_255 dX8_restore_136 rfl ?_
      refine m_put3 (n := 142) hC hD gp_X8_88 dX8_restore_139 ?_
      refine g_aload_n (n := 143) hC rfl dX8_restore_142 ?_
      refine m_get (v := .ref (M + 2)) (n := 146) hC hD gf_X8_20 dX8_restore_143 rfl ?_
      refine g_sipush (n := 149) (v := (nI 153)) hC (by decide) dX8_restore_146 ?_
      refine m_ld5 (x := (nI sp)) (n := 150) hC hD 153 dX8_restore_149 (rfl) (by omega) (show cpF (ar 11) (ar 5) 155 153 = nI sp from (if_pos (by decide)).trans hsp) ?_
      exact g_iret hC dX8_restore_150 (⟨rfl, rfl, (Or.inr ⟨h5, rfl, rfl⟩)⟩)
    ·
      exact absurd h20 h5
