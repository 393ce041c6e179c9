def sgC (w : Nat) (x : Int32) (j : Nat) : Int32 := if x = -1 then nI 45 else if j = 0 then nI (97 + x.toNatClampNeg % w) else nI (49 + x.toNatClampNeg / w)
def lnC (x : Int32) : Nat := if x = -1 then 1 else 2
theorem lnC_le (x : Int32) : 1 ≤ lnC x ∧ lnC x ≤ 2 := by rw [lnC]; split <;> omega
/-- the sign at place k of the text of the n rounds from i on -/
def wrG (g : Nat → Int32) (w : Nat) : Nat → Nat → Nat → Option Int32
  | 0, _, _ => none
  | n + 1, i, k => if k < lnC (g (7 * i + 0)) then some (sgC w (g (7 * i + 0)) k) else if k - lnC (g (7 * i + 0)) < lnC (g (7 * i + 1)) then some (sgC w (g (7 * i + 1)) (k - lnC (g (7 * i + 0)))) else if k - lnC (g (7 * i + 0)) - lnC (g (7 * i + 1)) = 0 then some (nI 59) else wrG g w n (i + 1) (k - lnC (g (7 * i + 0)) - lnC (g (7 * i + 1)) - 1)
theorem sgC_ch {w h : Nat} {x : Int32} {j : Nat} (hn : w * h ≤ 49) (hx : chOK (w * h) x) : ∃ c, c < 65536 ∧ sgC w x j = nI c := by
  rcases hx with rfl | ⟨x0, hx, rfl⟩
  · exact ⟨45, by decide, rfl⟩
  · have hne : ¬ nI x0 = -1 := fun q => by
      have h7 : (nI x0).toInt = -1 := by rw [q]; decide
      rw [nI_toInt (by omega)] at h7
      omega
    have h1 : (nI x0).toNatClampNeg = x0 := nI_clamp (by omega)
    have h2 := Nat.mod_le x0 w
    have h3 := Nat.div_le_self x0 w
    by_cases e : j = 0
    · exact ⟨97 + x0 % w, by omega, by rw [sgC, if_neg hne, if_pos e, h1]⟩
    · exact ⟨49 + x0 / w, by omega, by rw [sgC, if_neg hne, if_neg e, h1]⟩
section WG
variable {g : Nat → Int32} {w n i k : Nat}
theorem wrG_1 (q : k < lnC (g (7 * i + 0))) : wrG g w (n + 1) i k = some (sgC w (g (7 * i + 0)) k) := by rw [wrG, if_pos q]
theorem wrG_2 (q : ¬ k < lnC (g (7 * i + 0))) (q2 : k - lnC (g (7 * i + 0)) < lnC (g (7 * i + 1))) : wrG g w (n + 1) i k = some (sgC w (g (7 * i + 1)) (k - lnC (g (7 * i + 0)))) := by rw [wrG, if_neg q, if_pos q2]
theorem wrG_3 (q : ¬ k < lnC (g (7 * i + 0))) (q2 : ¬ k - lnC (g (7 * i + 0)) < lnC (g (7 * i + 1))) (q3 : k - lnC (g (7 * i + 0)) - lnC (g (7 * i + 1)) = 0) : wrG g w (n + 1) i k = some (nI 59) := by rw [wrG, if_neg q, if_neg q2, if_pos q3]
theorem wrG_4 (q : ¬ k < lnC (g (7 * i + 0))) (q2 : ¬ k - lnC (g (7 * i + 0)) < lnC (g (7 * i + 1))) (q3 : ¬ k - lnC (g (7 * i + 0)) - lnC (g (7 * i + 1)) = 0) : wrG g w (n + 1) i k = wrG g w n (i + 1) (k - lnC (g (7 * i + 0)) - lnC (g (7 * i + 1)) - 1) := by rw [wrG, if_neg q, if_neg q2, if_neg q3]
end WG
theorem M_lengthOfN (K : GK) {M : Nat} {sc : Nat → Int32} {ar : Nat → Nat → Int32} {σ0 : GS} {L : List Nat} {z : Nat} (hD : mdom M L) {x : Int32} : gT K yX8_lengthOf cX8_lengthOf 1 (some .int) 0 [.int x] z L (mdl K M sc ar σ0) (some (.int (nI (lnC x)))) (mdl K M sc ar σ0) := M_lengthOf K hD

set_option maxRecDepth 20000 in
theorem M_signOf (K : GK) {M : Nat} {sc : Nat → Int32} {ar : Nat → Nat → Int32} {σ0 : GS} {L : List Nat} {z : Nat} (hD : mdom M L) {w h : Nat} (hB : mB sc w h) {x : Int32} {j : Nat} (hj : j ≤ 1) (hx : chOK (w * h) x) : gT K yX8_signOf cX8_signOf 3 (some .char) 0 [.ref M, .int x, .int (nI j)] z L (mdl K M sc ar σ0) (some (.int (sgC w x j))) (mdl K M sc ar σ0) := by
  obtain ⟨hw, hh, hw1, hw2, hh1, hh2⟩ := id hB
  have hn : w * h ≤ 49 := Nat.mul_le_mul hw2 hh2
  have hn1 : 16 ≤ w * h := Nat.mul_le_mul hw1 hh1
  refine g_intro [some (.ref M), some (.int x), some (.int (nI j))] (fun Γ hC => ?_) (by simp [g_en, lv_args, Value.category])
  refine g_iload_n (n := 1) hC rfl dX8_signOf_0 ?_
  refine g_iconst (n := 2) (v := (-1)) hC (by decide) dX8_signOf_1 ?_
  refine g_icmp_ne (n := 5) (tgt := 10) hC dX8_signOf_2 (fun h2 => ?_) (fun h2 => ?_)
  ·
    obtain ⟨x0, hx1, hx2⟩ := hx.resolve_left h2
    subst hx2
    have h8 := Nat.mod_le x0 w
    have h9 := Nat.div_le_self x0 w
    have hcl : (nI x0).toNatClampNeg = x0 := nI_clamp (by omega)
    refine g_iload_n (n := 11) hC rfl dX8_signOf_10 ?_
    refine g_if_neN (n := 14) (tgt := 26) hC (by omega) dX8_signOf_11 (fun h11 => ?_) (fun h11 => ?_)
    ·
      refine g_bipush (n := 28) (v := (nI 49)) hC (by decide) dX8_signOf_26 ?_
      refine g_iload_n (n := 29) hC rfl dX8_signOf_28 ?_
      refine g_aload_n (n := 30) hC rfl dX8_signOf_29 ?_
      refine m_get (v := .int (nI w)) (n := 33) hC hD gf_X8_9 dX8_signOf_30 (congrArg (fun x => some (Value.int x)) (hw)) ?_
      refine g_idivN (n := 34) hC (by omega) (by omega) (by omega) dX8_signOf_33 ?_
      refine g_iaddN (n := 35) hC dX8_signOf_34 ?_
      refine g_i2c (n := 36) hC (i2cN (by omega)) dX8_signOf_35 ?_
      exact g_zret hC (by first | rfl | exact (pk_charN (by omega)).1) dX8_signOf_36 (⟨rI (by rw [sgC, if_neg h2, if_neg h11, hcl]), rfl, rfl, rfl⟩)
    ·
      refine g_bipush (n := 16) (v := (nI 97)) hC (by decide) dX8_signOf_14 ?_
      refine g_iload_n (n := 17) hC rfl dX8_signOf_16 ?_
      refine g_aload_n (n := 18) hC rfl dX8_signOf_17 ?_
      refine m_get (v := .int (nI w)) (n := 21) hC hD gf_X8_9 dX8_signOf_18 (congrArg (fun x => some (Value.int x)) (hw)) ?_
      refine g_irem (n := 22) hC (nI_ne0 (by omega) (by omega)) (pk_rem (by omega) (by omega) (by omega)) dX8_signOf_21 ?_
      refine g_iaddN (n := 23) hC dX8_signOf_22 ?_
      refine g_goto (n := 35) hC dX8_signOf_23 ?_
      refine g_i2c (n := 36) hC (i2cN (by omega)) dX8_signOf_35 ?_
      exact g_zret hC (by first | rfl | exact (pk_charN (by omega)).1) dX8_signOf_36 (⟨rI (by rw [sgC, if_neg h2, if_pos h11, hcl]), rfl, rfl, rfl⟩)
  ·
    refine g_bipush (n := 7) (v := (nI 45)) hC (by decide) dX8_signOf_5 ?_
    refine g_goto (n := 36) hC dX8_signOf_7 ?_
    exact g_zret hC (by first | rfl | exact (pk_charN (by omega)).1) dX8_signOf_36 (⟨rI (by rw [sgC, if_pos h2]), rfl, rfl, rfl⟩)

set_option maxRecDepth 20000 in
theorem M_writtenN (K : GK) {M : Nat} {sc : Nat → Int32} {ar : Nat → Nat → Int32} {σ0 : GS} {L : List Nat} {z : Nat} (hD : mdom M L) {w h : Nat} (hB : mB sc w h) {k0 : Nat} (hk0 : k0 < 2 ^ 31) {pl : Nat} (hpl : ar 5 153 = nI pl) (hpl60 : pl ≤ 60) (hinf : ∀ i, i < pl → ∀ s, s < 2 → chOK (w * h) (ar 9 (7 * i + s))) : gM K yX8_written cX8_written 6 (some .char) 1 0 0 [.ref M, .int (nI k0)] z L (mdl K M sc ar σ0) (fun r z1 L1 σ2 => z1 = z ∧ L1 = L ∧ ((∃ x, wrG (ar 9) w pl 0 k0 = some x ∧ r = some (.int x) ∧ σ2 = mdl K M (va_up sc 0 (nI 0)) ar σ0) ∨ (wrG (ar 9) w pl 0 k0 = none ∧ r = some (.int (nI 0)) ∧ σ2 = mdl K M (va_up sc 0 (nI 1)) ar σ0))) := by
  obtain ⟨hw, hh, hw1, hw2, hh1, hh2⟩ := id hB
  have hn : w * h ≤ 49 := Nat.mul_le_mul hw2 hh2
  have hn1 : 16 ≤ w * h := Nat.mul_le_mul hw1 hh1
  refine g_intro [some (.ref M), some (.int (nI k0)), none, none, none, none] (fun Γ hC => ?_) (by simp [g_en, lv_args, Value.category])
  refine g_aload_n (n := 1) hC rfl dX8_written_0 ?_
  refine g_iconst (n := 2) (v := (nI 0)) hC (by decide) dX8_written_1 ?_
  refine m_put0 (n := 5) hC hD gp_X8_73 dX8_written_2 ?_
  refine g_iload_n (n := 6) hC rfl dX8_written_5 ?_
  refine g_istore_n (n := 7) (ll1 := [some (.ref M), some (.int (nI k0)), some (.int (nI k0)), none, none, none]) hC dX8_written_6 rfl ?_
  refine g_iconst (n := 8) (v := (nI 0)) hC (by decide) dX8_written_7 ?_
  refine g_istore_n (n := 9) (ll1 := [some (.ref M), some (.int (nI k0)), some (.int (nI k0)), some (.int (nI 0)), none, none]) hC dX8_written_8 rfl ?_
  have lp9 : ∀ (n9 : Nat) (i : Nat) (k : Nat) (hi : i ≤ pl) (hk : k < 2 ^ 31) (hwr : wrG (ar 9) w pl 0 k0 = wrG (ar 9) w (pl - i) i k) (y2 : Int32) (ey2 : y2 = (nI k)) (y3 : Int32) (ey3 : y3 = (nI i)) (hm9 : pl - i < n9), G K Γ (z, 0, 0, L) (mdl K M (va_up sc 0 (nI 0)) ar σ0) 9 [some (.ref M), some (.int (nI k0)), some (.int y2), some (.int y3), none, none] [] := by
    intro n9
    induction n9 with
    | zero =>
      intro i k hi hk hwr y2 ey2 y3 ey3 hm9
      exact absurd hm9 (Nat.not_lt_zero _)
    | succ n9 ih9 =>
      intro i k hi hk hwr y2 ey2 y3 ey3 hm9
      subst ey2
      subst ey3
      refine g_iload_n (n := 10) hC rfl dX8_written_9 ?_
      refine g_aload_n (n := 11) hC rfl dX8_written_10 ?_
      refine m_get (v := .ref (M + 2)) (n := 14) hC hD gf_X8_20 dX8_written_11 rfl ?_
      refine g_sipush (n := 17) (v := (nI 153)) hC (by decide) dX8_written_14 ?_
      refine m_ld5 (x := (nI pl)) (n := 18) hC hD 153 dX8_written_17 (rfl) (by omega) (hpl) ?_
      refine g_icmp_geN (n := 21) (tgt := 95) hC (by omega) (by omega) dX8_written_18 (fun h18 => ?_) (fun h18 => ?_)
      ·
        refine g_aload_n (n := 96) hC rfl dX8_written_95 ?_
        refine g_iconst (n := 97) (v := (nI 1)) hC (by decide) dX8_written_96 ?_
        refine m_put0 (n := 100) hC hD gp_X8_73 dX8_written_97 ?_
        refine G.eqs mdl_ss ?_
        refine g_iconst (n := 101) (v := (nI 0)) hC (by decide) dX8_written_100 ?_
        exact g_zret hC (by rfl) dX8_written_101 (⟨rfl, rfl, (Or.inr ⟨by rw [hwr, show pl - i = 0 by omega]; rfl, rfl, rfl⟩)⟩)
      ·
        have hpi : pl - i = (pl - (i + 1)) + 1 := by omega
        refine g_iload_n (n := 22) hC rfl dX8_written_21 ?_
        refine g_if_ltN (n := 25) (tgt := 95) hC (by omega) dX8_written_22 (fun h22 => ?_) (fun h22 => ?_)
        · exact h22.elim
        ·
          refine g_iconst (n := 26) (v := (nI 0)) hC (by decide) dX8_written_25 ?_
          refine g_istore (n := 28) (ll1 := [some (.ref M), some (.int (nI k0)), some (.int (nI k)), some (.int (nI i)), some (.int (nI 0)), none]) hC dX8_written_26 rfl ?_
          refine g_iload (n := 30) hC rfl dX8_written_28 ?_
          refine g_iconst (n := 31) (v := (nI 2)) hC (by decide) dX8_written_30 ?_
          refine g_icmp_geN (n := 34) (tgt := 79) hC (by decide) (by decide) dX8_written_31 (fun h9 => absurd h9 (by decide)) (fun _ => ?_)
          refine g_aload_n (n := 35) hC rfl dX8_written_34 ?_
          refine m_get (v := .ref (M + 6)) (n := 38) hC hD gf_X8_32 dX8_written_35 rfl ?_
          refine g_bipush (n := 40) (v := (nI 7)) hC (by decide) dX8_written_38 ?_
          refine g_iload_n (n := 41) hC rfl dX8_written_40 ?_
          refine g_imulN (n := 42) hC dX8_written_41 ?_
          refine g_iload (n := 44) hC rfl dX8_written_42 ?_
          refine g_iaddN (n := 45) hC dX8_written_44 ?_
          refine m_ld9 (x := ((ar 9) ((7 * i) + 0))) (n := 46) hC hD ((7 * i) + 0) dX8_written_45 (rfl) (by omega) (rfl) ?_
          refine g_istore (n := 48) (ll1 := [some (.ref M), some (.int (nI k0)), some (.int (nI k)), some (.int (nI i)), some (.int (nI 0)), some (.int ((ar 9) ((7 * i) + 0)))]) hC dX8_written_46 rfl ?_
          refine g_iload_n (n := 49) hC rfl dX8_written_48 ?_
          refine g_iload (n := 51) hC rfl dX8_written_49 ?_
          refine g_cS (n := 54) hC gs_X8_242 (M_lengthOfN K hD) dX8_written_51 ?_
          have hl0 := lnC_le ((ar 9) ((7 * i) + 0))
          refine g_icmp_geN (n := 57) (tgt := 65) hC (by omega) (by omega) dX8_written_54 (fun h54 => ?_) (fun h54 => ?_)
          ·
            have e54_0 := h54
            refine g_iload_n (n := 66) hC rfl dX8_written_65 ?_
            refine g_iload (n := 68) hC rfl dX8_written_66 ?_
            refine g_cS (n := 71) hC gs_X8_242 (M_lengthOfN K hD) dX8_written_68 ?_
            have hl1 := lnC_le ((ar 9) ((7 * i) + 0))
            refine g_isubN (n := 72) hC (by omega) dX8_written_71 ?_
            refine g_istore_n (n := 73) (ll1 := [some (.ref M), some (.int (nI k0)), some (.int (nI (k - (lnC ((ar 9) ((7 * i) + 0)))))), some (.int (nI i)), some (.int (nI 0)), some (.int ((ar 9) ((7 * i) + 0)))]) hC dX8_written_72 rfl ?_
            refine g_iinc (n := 76) (ll1 := [some (.ref M), some (.int (nI k0)), some (.int (nI (k - (lnC ((ar 9) ((7 * i) + 0)))))), some (.int (nI i)), some (.int (nI 1)), some (.int ((ar 9) ((7 * i) + 0)))]) hC dX8_written_73 rfl (nI_inc _) rfl ?_
            refine g_goto (n := 28) hC dX8_written_76 ?_
            refine g_iload (n := 30) hC rfl dX8_written_28 ?_
            refine g_iconst (n := 31) (v := (nI 2)) hC (by decide) dX8_written_30 ?_
            refine g_icmp_geN (n := 34) (tgt := 79) hC (by decide) (by decide) dX8_written_31 (fun h9 => absurd h9 (by decide)) (fun _ => ?_)
            refine g_aload_n (n := 35) hC rfl dX8_written_34 ?_
            refine m_get (v := .ref (M + 6)) (n := 38) hC hD gf_X8_32 dX8_written_35 rfl ?_
            refine g_bipush (n := 40) (v := (nI 7)) hC (by decide) dX8_written_38 ?_
            refine g_iload_n (n := 41) hC rfl dX8_written_40 ?_
            refine g_imulN (n := 42) hC dX8_written_41 ?_
            refine g_iload (n := 44) hC rfl dX8_written_42 ?_
            refine g_iaddN (n := 45) hC dX8_written_44 ?_
            refine m_ld9 (x := ((ar 9) ((7 * i) + 1))) (n := 46) hC hD ((7 * i) + 1) dX8_written_45 (rfl) (by omega) (rfl) ?_
            refine g_istore (n := 48) (ll1 := [some (.ref M), some (.int (nI k0)), some (.int (nI (k - (lnC ((ar 9) ((7 * i) + 0)))))), some (.int (nI i)), some (.int (nI 1)), some (.int ((ar 9) ((7 * i) + 1)))]) hC dX8_written_46 rfl ?_
            refine g_iload_n (n := 49) hC rfl dX8_written_48 ?_
            refine g_iload (n := 51) hC rfl dX8_written_49 ?_
            refine g_cS (n := 54) hC gs_X8_242 (M_lengthOfN K hD) dX8_written_51 ?_
            have hl1 := lnC_le ((ar 9) ((7 * i) + 1))
            refine g_icmp_geN (n := 57) (tgt := 65) hC (by omega) (by omega) dX8_written_54 (fun h54 => ?_) (fun h54 => ?_)
            ·
              have e54_1 := h54
              refine g_iload_n (n := 66) hC rfl dX8_written_65 ?_
              refine g_iload (n := 68) hC rfl dX8_written_66 ?_
              refine g_cS (n := 71) hC gs_X8_242 (M_lengthOfN K hD) dX8_written_68 ?_
              have hl2 := lnC_le ((ar 9) ((7 * i) + 1))
              refine g_isubN (n := 72) hC (by omega) dX8_written_71 ?_
              refine g_istore_n (n := 73) (ll1 := [some (.ref M), some (.int (nI k0)), some (.int (nI ((k - (lnC ((ar 9) ((7 * i) + 0)))) - (lnC ((ar 9) ((7 * i) + 1)))))), some (.int (nI i)), some (.int (nI 1)), some (.int ((ar 9) ((7 * i) + 1)))]) hC dX8_written_72 rfl ?_
              refine g_iinc (n := 76) (ll1 := [some (.ref M), some (.int (nI k0)), some (.int (nI ((k - (lnC ((ar 9) ((7 * i) + 0)))) - (lnC ((ar 9) ((7 * i) + 1)))))), some (.int (nI i)), some (.int (nI 2)), some (.int ((ar 9) ((7 * i) + 1)))]) hC dX8_written_73 rfl (nI_inc _) rfl ?_
              refine g_goto (n := 28) hC dX8_written_76 ?_
              refine g_iload (n := 30) hC rfl dX8_written_28 ?_
              refine g_iconst (n := 31) (v := (nI 2)) hC (by decide) dX8_written_30 ?_
              refine g_icmp_geN (n := 34) (tgt := 79) hC (by decide) (by decide) dX8_written_31 (fun _ => ?_) (fun h9 => absurd h9 (by decide))
              refine g_iload_n (n := 80) hC rfl dX8_written_79 ?_
              refine g_if_neN (n := 83) (tgt := 86) hC (by omega) dX8_written_80 (fun h80 => ?_) (fun h80 => ?_)
              ·
                refine g_iinc (n := 89) (ll1 := [some (.ref M), some (.int (nI k0)), some (.int (nI (((k - (lnC ((ar 9) ((7 * i) + 0)))) - (lnC ((ar 9) ((7 * i) + 1)))) - 1))), some (.int (nI i)), some (.int (nI 2)), some (.int ((ar 9) ((7 * i) + 1)))]) hC dX8_written_86 rfl (nI_dec (by omega)) rfl ?_
                refine g_iinc (n := 92) (ll1 := [some (.ref M), some (.int (nI k0)), some (.int (nI (((k - (lnC ((ar 9) ((7 * i) + 0)))) - (lnC ((ar 9) ((7 * i) + 1)))) - 1))), some (.int (nI (i + 1))), some (.int (nI 2)), some (.int ((ar 9) ((7 * i) + 1)))]) hC dX8_written_89 rfl (nI_inc _) rfl ?_
                refine g_goto (n := 9) hC dX8_written_92 ?_
                exact G.le (ih9 (i + 1) (k - lnC (ar 9 (7 * i + 0)) - lnC (ar 9 (7 * i + 1)) - 1) (by omega) (by omega) (by first | rfl | (rw [hwr, hpi]; exact wrG_4 (Nat.not_lt.mpr e54_0) (Nat.not_lt.mpr e54_1) h80)) _ (by first | rfl | (simp [*]; done)) _ (by first | rfl | (simp [*]; done)) (by omega)) (And.intro rfl (And.intro rfl (And.intro rfl (And.intro rfl (trivial)))))
              ·
                refine g_bipush (n := 85) (v := (nI 59)) hC (by decide) dX8_written_83 ?_
                exact g_zret hC (by rfl) dX8_written_85 (⟨rfl, rfl, (Or.inl ⟨_, by rw [hwr, hpi]; exact wrG_3 (Nat.not_lt.mpr e54_0) (Nat.not_lt.mpr e54_1) h80, rfl, rfl⟩)⟩)
            ·
              have e54_1 := h54
              refine g_aload_n (n := 58) hC rfl dX8_written_57 ?_
              refine g_iload (n := 60) hC rfl dX8_written_58 ?_
              refine g_iload_n (n := 61) hC rfl dX8_written_60 ?_
              refine g_cV (n := 64) hC gv_X8_245 (hD 0 (by decide)) mdl_0 (M_signOf K hD (show mB (va_up sc 0 (nI 0)) w h from hB) (x := ((ar 9) ((7 * i) + 1))) (j := k - (lnC ((ar 9) ((7 * i) + 0)))) (by omega) (hinf i (by omega) 1 (by omega))) dX8_written_61 ?_
              exact g_zret hC (by obtain ⟨c9, hc9, e9⟩ := sgC_ch (j := _) hn (hinf i (by omega) _ (by omega)); rw [e9]; exact (pk_charN hc9).1) dX8_written_64 (⟨rfl, rfl, (Or.inl ⟨_, by rw [hwr, hpi]; exact wrG_2 (Nat.not_lt.mpr e54_0) e54_1, rfl, rfl⟩)⟩)
          ·
            have e54_0 := h54
            refine g_aload_n (n := 58) hC rfl dX8_written_57 ?_
            refine g_iload (n := 60) hC rfl dX8_written_58 ?_
            refine g_iload_n (n := 61) hC rfl dX8_written_60 ?_
            refine g_cV (n := 64) hC gv_X8_245 (hD 0 (by decide)) mdl_0 (M_signOf K hD (show mB (va_up sc 0 (nI 0)) w h from hB) (x := ((ar 9) ((7 * i) + 0))) (j := k) (by omega) (hinf i (by omega) 0 (by omega))) dX8_written_61 ?_
            exact g_zret hC (by obtain ⟨c9, hc9, e9⟩ := sgC_ch (j := _) hn (hinf i (by omega) _ (by omega)); rw [e9]; exact (pk_charN hc9).1) dX8_written_64 (⟨rfl, rfl, (Or.inl ⟨_, by rw [hwr, hpi]; exact wrG_1 e54_0, rfl, rfl⟩)⟩)
  exact lp9 _ 0 k0 (by omega) (by omega) (by first | rfl | (rw [hwr, hpi]; exact wrG_4 (Nat.not_lt.mpr e54_0) (Nat.not_lt.mpr e54_1) h80)) _ (by first | rfl | (simp [*]; done)) _ (by first | rfl | (simp [*]; done)) (Nat.lt_succ_self _)
