theorem dv_ok : ∀ w, w < 8 → ∀ h, h < 8 → ∀ a, a < 99 → 3 < w → 3 < h → FP.ddiv (FP.i2d (nI a)) (FP.i2d (nI (w * h))) &&& 0x7fffffffffffffff ≤ 0x7ff0000000000000 := by decide +kernel
section GD
variable {K : GK} {Γ : GX} {cc : ByteArray} {nL d mc ms : Nat} {own mn : String} {rt : Option FieldType} {Po : GP} {ω : GO} {σ : GS} {pc n : Nat} {ll ll1 : List (Option Value)} {r : List Value} {rest : List Value}
theorem g_dconst0 (hC : gC K Γ cc nL own mn d mc ms rt Po) (hd : decode cc pc = .ok (.dconst 0, 1)) (k : G K Γ ω σ n ll (.double FP.dconst0 :: r)) (hn : n = pc + 1 := by rfl) : G K Γ ω σ pc ll (r) := by
  subst hn
  obtain ⟨l, D, cy⟩ := K
  obtain ⟨p, e, R, s, m, args, below, meth, c, A, H0, Q⟩ := Γ
  obtain ⟨z, k9, n9, L⟩ := ω
  obtain ⟨⟨hx, hb, hml, hown, hts⟩, hrt, hlk, ⟨hK, hEv⟩, hA, hR, hmn, hE⟩ := hC
  intro H locs ls hz hW hS hl
  exact lv_dconst0 hx hb hd (k H locs ls hz hW hS hl)
theorem g_i2d (hC : gC K Γ cc nL own mn d mc ms rt Po) {x : Int32} (hd : decode cc pc = .ok (.i2d, 1)) (k : G K Γ ω σ n ll (.double (FP.i2d x) :: r)) (hn : n = pc + 1 := by rfl) : G K Γ ω σ pc ll (.int x :: r) := by
  subst hn
  obtain ⟨l, D, cy⟩ := K
  obtain ⟨p, e, R, s, m, args, below, meth, c, A, H0, Q⟩ := Γ
  obtain ⟨z, k9, n9, L⟩ := ω
  obtain ⟨⟨hx, hb, hml, hown, hts⟩, hrt, hlk, ⟨hK, hEv⟩, hA, hR, hmn, hE⟩ := hC
  intro H locs ls hz hW hS hl
  exact lv_i2d hx hb hd (k H locs ls hz hW hS hl)
theorem g_ddiv (hC : gC K Γ cc nL own mn d mc ms rt Po) {x y : UInt64} (hne : FP.ddiv x y &&& 0x7fffffffffffffff ≤ 0x7ff0000000000000) (hd : decode cc pc = .ok (.ddiv, 1)) (k : G K Γ ω σ n ll (.double (FP.ddiv x y) :: r)) (hn : n = pc + 1 := by rfl) : G K Γ ω σ pc ll (.double y :: .double x :: r) := by
  subst hn
  obtain ⟨l, D, cy⟩ := K
  obtain ⟨p, e, R, s, m, args, below, meth, c, A, H0, Q⟩ := Γ
  obtain ⟨z, k9, n9, L⟩ := ω
  obtain ⟨⟨hx, hb, hml, hown, hts⟩, hrt, hlk, ⟨hK, hEv⟩, hA, hR, hmn, hE⟩ := hC
  intro H locs ls hz hW hS hl
  exact lv_ddiv hx hb hd hne (k H locs ls hz hW hS hl)
end GD

set_option maxRecDepth 20000 in
theorem M_share (K : GK) {M : Nat} {sc : Nat → Int32} {ar : Nat → Nat → Int32} {σ0 : GS} {L : List Nat} {z : Nat} (hD : mdom M L) {w h : Nat} (hB : mB sc w h) {p : Int32} : gM K yX8_share cX8_share 2 (some .double) 2 0 0 [.ref M, .int p] z L (mdl K M sc ar σ0) (fun r z1 L1 σ2 => z1 = z ∧ L1 = L ∧ ((¬ inR 0 1 p ∧ r = some (.double FP.dconst0) ∧ σ2 = mdl K M (va_up sc 0 (nI 1)) ar σ0) ∨ (∃ p0, p0 ≤ 1 ∧ p = nI p0 ∧ r = some (.double (FP.ddiv (FP.i2d (nI (mny (ar 5) (w * h) (nI (1 + p0)) + mny (ar 5) (w * h) (nI (3 + p0))))) (FP.i2d (nI (w * h))))) ∧ σ2 = mdl K M (va_up sc 0 (nI 0)) ar σ0))) := by
  obtain ⟨hw, hh, hw1, hw2, hh1, hh2⟩ := id hB
  have hn : w * h ≤ 49 := Nat.mul_le_mul hw2 hh2
  have hn1 : 16 ≤ w * h := Nat.mul_le_mul hw1 hh1
  refine g_intro [some (.ref M), some (.int p)] (fun Γ hC => ?_) (by simp [g_en, lv_args, Value.category])
  refine g_aload_n (n := 1) hC rfl dX8_share_0 ?_
  refine g_iload_n (n := 2) hC rfl dX8_share_1 ?_
  refine g_iconst (n := 3) (v := (nI 0)) hC (by decide) dX8_share_2 ?_
  refine g_iconst (n := 4) (v := (nI 1)) hC (by decide) dX8_share_3 ?_
  refine g_cS (n := 7) hC gs_X8_80 (M_isInN K hD 0 1 (by omega) (by omega)) dX8_share_4 ?_
  refine g_ifb_eq (n := 10) (tgt := 14) hC dX8_share_7 (fun h7 => ?_) (fun h7 => ?_)
  ·
    refine g_iconst (n := 15) (v := (nI 1)) hC (by decide) dX8_share_14 ?_
    refine m_put0 (n := 18) hC hD gp_X8_73 dX8_share_15 ?_
    refine g_aload_n (n := 19) hC rfl dX8_share_18 ?_
    refine m_get (v := .int (nI 1)) (n := 22) hC hD gf_X8_73 dX8_share_19 rfl ?_
    refine g_iconst (n := 23) (v := (nI 1)) hC (by decide) dX8_share_22 ?_
    refine g_icmp_neN (n := 26) (tgt := 30) hC (by decide) (by decide) dX8_share_23 (fun h9 => absurd h9 (by decide)) (fun _ => ?_)
    refine g_dconst0 (n := 27) hC dX8_share_26 ?_
    refine g_goto (n := 52) hC dX8_share_27 ?_
    exact g_dret hC dX8_share_52 (⟨rfl, rfl, (Or.inl ⟨h7, rfl, rfl⟩)⟩)
  ·
    obtain ⟨p0, hp0, hp1, rfl⟩ := h7
    refine g_iconst (n := 11) (v := (nI 0)) hC (by decide) dX8_share_10 ?_
    refine g_goto (n := 15) hC dX8_share_11 ?_
    refine m_put0 (n := 18) hC hD gp_X8_73 dX8_share_15 ?_
    refine g_aload_n (n := 19) hC rfl dX8_share_18 ?_
    refine m_get (v := .int (nI 0)) (n := 22) hC hD gf_X8_73 dX8_share_19 rfl ?_
    refine g_iconst (n := 23) (v := (nI 1)) hC (by decide) dX8_share_22 ?_
    refine g_icmp_neN (n := 26) (tgt := 30) hC (by decide) (by decide) dX8_share_23 (fun _ => ?_) (fun h9 => absurd h9 (by decide))
    refine g_aload_n (n := 31) hC rfl dX8_share_30 ?_
    refine g_iconst (n := 32) (v := (nI 1)) hC (by decide) dX8_share_31 ?_
    refine g_iload_n (n := 33) hC rfl dX8_share_32 ?_
    refine g_iaddN (n := 34) hC dX8_share_33 ?_
    refine g_cV (n := 37) hC gv_X8_84 (hD 0 (by decide)) mdl_0 (M_many K hD (show mB (va_up sc 0 (nI 0)) w h from hB)) dX8_share_34 ?_
    refine g_aload_n (n := 38) hC rfl dX8_share_37 ?_
    refine g_iconst (n := 39) (v := (nI 3)) hC (by decide) dX8_share_38 ?_
    refine g_iload_n (n := 40) hC rfl dX8_share_39 ?_
    refine g_iaddN (n := 41) hC dX8_share_40 ?_
    refine g_cV (n := 44) hC gv_X8_84 (hD 0 (by decide)) mdl_0 (M_many K hD (show mB (va_up sc 0 (nI 0)) w h from hB)) dX8_share_41 ?_
    refine g_iaddN (n := 45) hC dX8_share_44 ?_
    refine g_i2d (n := 46) hC dX8_share_45 ?_
    refine g_aload_n (n := 47) hC rfl dX8_share_46 ?_
    refine g_cV (n := 50) hC gv_X8_76 (hD 0 (by decide)) mdl_0 (M_cells K hD (show mB (va_up sc 0 (nI 0)) w h from hB)) dX8_share_47 ?_
    refine g_i2d (n := 51) hC dX8_share_50 ?_
    refine g_ddiv (n := 52) hC (dv_ok w (by omega) h (by omega) _ (by have h1 := ct_le (fun i => decide (ar 5 i = nI (1 + p0))) (w * h); have h2 := ct_le (fun i => decide (ar 5 i = nI (3 + p0))) (w * h); omega) (by omega) (by omega)) dX8_share_51 ?_
    exact g_dret hC dX8_share_52 (⟨rfl, rfl, (Or.inr ⟨p0, hp1, rfl, rfl, rfl⟩)⟩)
