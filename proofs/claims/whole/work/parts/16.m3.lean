theorem gPost_mono {D : va_G} {A : Nat → Prop} {Po P2 : GP} (h : ∀ r z L σ, Po r z L σ → P2 r z L σ) {a : Array Value} {st t : State} {oc : Outcome} (q : gPost D A Po a st oc t) : gPost D A P2 a st oc t := by
  obtain ⟨⟨r, L, σ, h1, h2, h3⟩, h4⟩ := q
  exact ⟨⟨r, L, σ, h1, h _ _ _ _ h2, h3⟩, h4⟩
theorem gM_mono {K : GK} {y : MethodName} {cc : ByteArray} {nL : Nat} {rt : Option FieldType} {d mc ms : Nat} {av : List Value} {z : Nat} {L : List Nat} {σ : GS} {Po P2 : GP} (hM : gM K y cc nL rt d mc ms av z L σ Po) (h : ∀ r z1 L1 σ1, Po r z1 L1 σ1 → P2 r z1 L1 σ1) : gM K y cc nL rt d mc ms av z L σ P2 := by
  intro p e ha hc hk s m args below hf happ hP hK
  obtain ⟨n, o, h1, h2, h3, hQ, hL⟩ := hM p e ha hc hk s m args below hf happ hP hK
  exact ⟨n, o, h1, h2, h3, gPost_mono h hQ, hL⟩

section LK
variable {w h : Nat} {rule : Int32} {g f : Nat → Int32} {p i : Nat} {ch : Int32}
theorem nrF_y (q : mayF f (chI i)) : nrF w h rule g p f ch (i + 1) = mnI (ovl g (w * h) p (plU w h rule f g p ch (chI i))) (nrF w h rule g p f ch i) := fol_y q
theorem nrF_n (q : ¬ mayF f (chI i)) : nrF w h rule g p f ch (i + 1) = nrF w h rule g p f ch i := fol_n q
theorem bnF_y (q : mayF f (chI i)) : bnF w h rule g p f (i + 1) = mxI (nrF w h rule g p f (chI i) (w * h + 1)) (bnF w h rule g p f i) := fol_y q
theorem bnF_n (q : ¬ mayF f (chI i)) : bnF w h rule g p f (i + 1) = bnF w h rule g p f i := fol_n q
theorem frF_y (q : mayF f (chI i)) : frF w h rule g p f ch (i + 1) = mnI (frV w h rule g p (plU w h rule f g p ch (chI i))) (frF w h rule g p f ch i) := fol_y q
theorem frF_n (q : ¬ mayF f (chI i)) : frF w h rule g p f ch (i + 1) = frF w h rule g p f ch i := fol_n q
theorem frV_t {f2 : Nat → Int32} (q : ovF f2 (w * h)) : frV w h rule g p f2 = ovl g (w * h) p f2 := if_pos q
theorem frV_f {f2 : Nat → Int32} (q : ¬ ovF f2 (w * h)) : frV w h rule g p f2 = bnF w h rule g p f2 (w * h + 1) := if_neg q
theorem mnI_t {a b : Int32} (q : ¬ b ≤ a) : mnI a b = a := if_pos (Int32.not_le.mp q)
theorem mnI_f {a b : Int32} (q : b ≤ a) : mnI a b = b := if_neg (Int32.not_lt.mpr q)
theorem mxI_t {a b : Int32} (q : ¬ a ≤ b) : mxI a b = a := if_pos (Int32.not_le.mp q)
theorem mxI_f {a b : Int32} (q : a ≤ b) : mxI a b = b := if_neg (Int32.not_lt.mpr q)
theorem hi_plU (hn : w * h ≤ 49) {a b : Int32} (ha : chOK (w * h) a) (hb : chOK (w * h) b) : hi155 f (plU w h rule f g p a b) := hi_plV hn (mkA_ok ha hb) (mkA_ok hb ha)
end LK

set_option maxRecDepth 20000 in
theorem M_copies (K : GK) {σ : GS} {L : List Nat} {z : Nat} {a b n m k : Nat} {f g : Nat → Int32} (haL : a ∈ L) (hbL : b ∈ L) (hab : a ≠ b) (hsa : σ a = iA K n f) (hsb : σ b = iA K m g) (hk1 : k ≤ n) (hk2 : k ≤ m) (hn : n < 20000) (hm : m < 20000) : gT K yX8_copies cX8_copies 4 none 0 [.ref a, .ref b, .int (nI k)] z L (σ) none (va_up σ b (iA K m (cpF f g k))) := by
  refine g_intro [some (.ref a), some (.ref b), some (.int (nI k)), none] (fun Γ hC => ?_) (by simp [g_en, lv_args, Value.category])
  refine g_iconst (n := 1) (v := (nI 0)) hC (by decide) dX8_copies_0 ?_
  refine g_istore_n (n := 2) (ll1 := [some (.ref a), some (.ref b), some (.int (nI k)), some (.int (nI 0))]) hC dX8_copies_1 rfl ?_
  have lp2 : ∀ (n9 : Nat) (c : Nat) (hc : c ≤ k) (y3 : Int32) (ey3 : y3 = (nI c)) (hm9 : k - c < n9), G K Γ (z, 0, 0, L) (va_up σ b (iA K m (cpF f g c))) 2 [some (.ref a), some (.ref b), some (.int (nI k)), some (.int y3)] [] := by
    intro n9
    induction n9 with
    | zero =>
      intro c hc y3 ey3 hm9
      exact absurd hm9 (Nat.not_lt_zero _)
    | succ n9 ih2 =>
      intro c hc y3 ey3 hm9
      subst ey3
      refine g_iload_n (n := 3) hC rfl dX8_copies_2 ?_
      refine g_iload_n (n := 4) hC rfl dX8_copies_3 ?_
      refine g_icmp_geN (n := 7) (tgt := 19) hC (by omega) (by omega) dX8_copies_4 (fun h4 => ?_) (fun h4 => ?_)
      ·
        exact g_vret hC dX8_copies_19 (⟨rfl, rfl, rfl, (by rw [show c = k by omega])⟩)
      ·
        refine g_aload_n (n := 8) hC rfl dX8_copies_7 ?_
        refine g_iload_n (n := 9) hC rfl dX8_copies_8 ?_
        refine g_aload_n (n := 10) hC rfl dX8_copies_9 ?_
        refine g_iload_n (n := 11) hC rfl dX8_copies_10 ?_
        refine g_iald (n := 12) (j := c) hC (haL) ((va_up_ne _ _ hab).trans hsa) (rfl) (by omega) (by omega) dX8_copies_11 ?_
        refine g_iast (n := 13) (j := c) (f := cpF f g c) hC hbL (va_up_self _ _ _) rfl (by omega) (by omega) dX8_copies_12 ?_
        refine g_iinc (n := 16) (ll1 := [some (.ref a), some (.ref b), some (.int (nI k)), some (.int (nI (c + 1)))]) hC dX8_copies_13 rfl (nI_inc _) rfl ?_
        refine g_goto (n := 2) hC dX8_copies_16 ?_
        refine G.eqs (show _ = va_up σ b (iA K m (cpF f g (c + 1))) from (by rw [bx_uu, cpF_s])) ?_
        exact ih2 (c + 1) (by omega) _ (by first | rfl | (simp [*]; done)) (by omega)
  refine G.eqs (show _ = va_up σ b (iA K m (cpF f g 0)) from (by rw [cpF_0, ← hsb, va_up_same])) ?_
  exact lp2 _ 0 (by omega) _ (by first | rfl | (simp [*]; done)) (Nat.lt_succ_self _)

theorem M_makesP (K : GK) {M : Nat} {sc : Nat → Int32} {ar : Nat → Nat → Int32} {σ0 : GS} {L : List Nat} {z : Nat} (hD : mdom M L) {w h : Nat} (hB : mB sc w h) {a b : Int32} (ha : chOK (w * h) a) (hb : chOK (w * h) b) : gM K yX8_plays cX8_plays 5 none 6 0 0 [.ref M, .int a, .int b] z L (mdl K M sc ar σ0) (fun r z1 L1 σ2 => r = none ∧ z1 = z ∧ L1 = L ∧ ∃ (x y u : Int32) (e cb : Nat → Int32), σ2 = mdl K M (scS sc x y u) (arS ar (plV w h (sc 3) (ar 5) (ar 4) a b) e cb) σ0) := by
  refine gM_mono (M_plays K hD hB ha hb) (fun r z1 L1 σ2 hp => ?_)
  obtain ⟨hq1, hq2, hq3, W_1, e_1, cb_1, f_1, hq4, -, hq6⟩ := hp
  obtain ⟨-, rfl⟩ := plR_V hq4
  exact ⟨hq1, hq2, hq3, _, _, _, e_1, cb_1, hq6⟩

set_option maxRecDepth 20000 in
theorem M_makes (K : GK) {M : Nat} {sc : Nat → Int32} {ar : Nat → Nat → Int32} {σ0 : GS} {L : List Nat} {z : Nat} (hD : mdom M L) {w h : Nat} (hB : mB sc w h) {p : Nat} {a b : Int32} (hp : p ≤ 1) (ha : chOK (w * h) a) (hb : chOK (w * h) b) : gM K yX8_makes cX8_makes 4 none 7 0 0 [.ref M, .int (nI p), .int a, .int b] z L (mdl K M sc ar σ0) (fun r z1 L1 σ2 => r = none ∧ z1 = z ∧ L1 = L ∧ ∃ (x y u : Int32) (e cb : Nat → Int32), σ2 = mdl K M (scS sc x y u) (arS ar (plU w h (sc 3) (ar 5) (ar 4) p a b) e cb) σ0) := by
  obtain ⟨hw, hh, hw1, hw2, hh1, hh2⟩ := id hB
  have hn : w * h ≤ 49 := Nat.mul_le_mul hw2 hh2
  have hn1 : 16 ≤ w * h := Nat.mul_le_mul hw1 hh1
  refine g_intro [some (.ref M), some (.int (nI p)), some (.int a), some (.int b)] (fun Γ hC => ?_) (by simp [g_en, lv_args, Value.category])
  refine g_iload_n (n := 1) hC rfl dX8_makes_0 ?_
  refine g_if_neN (n := 4) (tgt := 13) hC (by omega) dX8_makes_1 (fun h1 => ?_) (fun h1 => ?_)
  ·
    refine g_aload_n (n := 14) hC rfl dX8_makes_13 ?_
    refine g_iload_n (n := 15) hC rfl dX8_makes_14 ?_
    refine g_iload_n (n := 16) hC rfl dX8_makes_15 ?_
    refine g_callV hC gv_X8_164 (M_makesP K hD hB (hb) (ha)) (hD 0 (by decide)) mdl_0 (by rfl) (by decide) (by decide) (by rfl) (by rfl) (Nat.le_of_ble_eq_true rfl) (by exact ⟨Nat.le_refl _, Nat.le_refl _⟩) dX8_makes_16 (fun rv9 z9 L9 σ9 hp9 => ?_)
    obtain ⟨rfl, hz9, hL9, x_n1, y_n1, u_n1, e_n1, cb_n1, hs9⟩ := hp9
    rw [hz9, hL9, hs9]
    refine G.eqs (show _ = mdl K M (scS sc x_n1 y_n1 u_n1) (arS ar (plV w h (sc 3) (ar 5) (ar 4) b a) e_n1 cb_n1) σ0 from rfl) ?_
    show G K Γ (z, 0, 0, L) (mdl K M (scS sc x_n1 y_n1 u_n1) (arS ar (plV w h (sc 3) (ar 5) (ar 4) b a) e_n1 cb_n1) σ0) 19 [some (.ref M), some (.int (nI p)), some (.int a), some (.int b)] []
    exact g_vret hC dX8_makes_19 (⟨rfl, rfl, rfl, x_n1, y_n1, u_n1, e_n1, cb_n1, by rw [plU, mkA, mkA, if_neg h1, if_neg h1]⟩)
  ·
    refine g_aload_n (n := 5) hC rfl dX8_makes_4 ?_
    refine g_iload_n (n := 6) hC rfl dX8_makes_5 ?_
    refine g_iload_n (n := 7) hC rfl dX8_makes_6 ?_
    refine g_callV hC gv_X8_164 (M_makesP K hD hB (ha) (hb)) (hD 0 (by decide)) mdl_0 (by rfl) (by decide) (by decide) (by rfl) (by rfl) (Nat.le_of_ble_eq_true rfl) (by exact ⟨Nat.le_refl _, Nat.le_refl _⟩) dX8_makes_7 (fun rv9 z9 L9 σ9 hp9 => ?_)
    obtain ⟨rfl, hz9, hL9, x_n2, y_n2, u_n2, e_n2, cb_n2, hs9⟩ := hp9
    rw [hz9, hL9, hs9]
    refine G.eqs (show _ = mdl K M (scS sc x_n2 y_n2 u_n2) (arS ar (plV w h (sc 3) (ar 5) (ar 4) a b) e_n2 cb_n2) σ0 from rfl) ?_
    show G K Γ (z, 0, 0, L) (mdl K M (scS sc x_n2 y_n2 u_n2) (arS ar (plV w h (sc 3) (ar 5) (ar 4) a b) e_n2 cb_n2) σ0) 10 [some (.ref M), some (.int (nI p)), some (.int a), some (.int b)] []
    refine g_goto (n := 19) hC dX8_makes_10 ?_
    exact g_vret hC dX8_makes_19 (⟨rfl, rfl, rfl, x_n2, y_n2, u_n2, e_n2, cb_n2, by rw [plU, mkA, mkA, if_pos h1, if_pos h1]⟩)

set_option maxRecDepth 20000 in
set_option maxHeartbeats 2000000 in
theorem M_near (K : GK) {M : Nat} {sc : Nat → Int32} {ar : Nat → Nat → Int32} {σ0 : GS} {L : List Nat} {z : Nat} (hD : mdom M L) {w h : Nat} (hB : mB sc w h) {p : Nat} {ch : Int32} (hp : p ≤ 1) (hch : chOK (w * h) ch) : gM K yX8_near cX8_near 6 (some .int) 8 0 0 [.ref M, .int (nI p), .int ch] z L (mdl K M sc ar σ0) (fun r z1 L1 σ2 => r = some (.int (nrF w h (sc 3) (ar 4) p (ar 5) ch (w * h + 1))) ∧ z1 = z ∧ L1 = L ∧ ∃ (x y u : Int32) (e cb s : Nat → Int32), σ2 = mdl K M (scS sc x y u) (arX ar (ar 5) e cb (ar 6) s) σ0) := by
  obtain ⟨hw, hh, hw1, hw2, hh1, hh2⟩ := id hB
  have hn : w * h ≤ 49 := Nat.mul_le_mul hw2 hh2
  have hn1 : 16 ≤ w * h := Nat.mul_le_mul hw1 hh1
  refine g_intro [some (.ref M), some (.int (nI p)), some (.int ch), none, none, none] (fun Γ hC => ?_) (by simp [g_en, lv_args, Value.category])
  refine g_aload_n (n := 1) hC rfl dX8_near_0 ?_
  refine m_get (v := .ref (M + 2)) (n := 4) hC hD gf_X8_20 dX8_near_1 rfl ?_
  refine g_aload_n (n := 5) hC rfl dX8_near_4 ?_
  refine m_get (v := .ref (M + 4)) (n := 8) hC hD gf_X8_26 dX8_near_5 rfl ?_
  refine g_sipush (n := 11) (v := (nI 155)) hC (by decide) dX8_near_8 ?_
  refine g_cSv (n := 14) hC gs_X8_192 (M_copies K (n := 155) (m := 155) (k := 155) (f := (ar 5)) (g := (ar 7)) (hD 2 (by decide)) (hD 4 (by decide)) (by omega) mdl_5 mdl_7 (by omega) (by omega) (by decide) (by decide)) dX8_near_11 ?_
  refine G.eqs mdl_s7 ?_
  refine G.eqs (show _ = mdl K M (scS sc (sc 22) (sc 23) (sc 24)) (arX ar (ar 5) (ar 20) (ar 21) (ar 6) (cpF (ar 5) (ar 7) 155)) σ0 from by rw [← scS_id]; exact congrArg (fun q => mdl K M sc q σ0) (arX_eq rfl rfl rfl rfl rfl (fun i h1 h2 h3 h4 h5 => by rw [arX_o h1 h2 h3 h4 h5]; first | rw [va_up_ne _ _ h3] | rw [va_up_ne _ _ h2]))) ?_
  refine g_ldc (n := 16) hC gc_X8_198 dX8_near_14 ?_
  refine g_istore_n (n := 17) (ll1 := [some (.ref M), some (.int (nI p)), some (.int ch), some (.int (2147483647)), none, none]) hC dX8_near_16 rfl ?_
  refine g_iconst (n := 18) (v := (-1)) hC (by decide) dX8_near_17 ?_
  refine g_istore (n := 20) (ll1 := [some (.ref M), some (.int (nI p)), some (.int ch), some (.int (2147483647)), some (.int (-1)), none]) hC dX8_near_18 rfl ?_
  have lp20 : ∀ (n9 : Nat) (i : Nat) (x : Int32) (y : Int32) (u : Int32) (e : Nat → Int32) (cb : Nat → Int32) (hi : i ≤ w * h + 1) (y3 : Int32) (ey3 : y3 = (nrF w h (sc 3) (ar 4) p (ar 5) ch i)) (y4 : Int32) (ey4 : y4 = (chI i)) (hm9 : w * h + 1 - i < n9), G K Γ (z, 0, 0, L) (mdl K M (scS sc x y u) (arX ar (ar 5) e cb (ar 6) (cpF (ar 5) (ar 7) 155)) σ0) 20 [some (.ref M), some (.int (nI p)), some (.int ch), some (.int y3), some (.int y4), none] [] := by
    intro n9
    induction n9 with
    | zero =>
      intro i x y u e cb hi y3 ey3 y4 ey4 hm9
      exact absurd hm9 (Nat.not_lt_zero _)
    | succ n9 ih20 =>
      intro i x y u e cb hi y3 ey3 y4 ey4 hm9
      subst ey3
      subst ey4
      refine g_iload (n := 22) hC rfl dX8_near_20 ?_
      refine g_aload_n (n := 23) hC rfl dX8_near_22 ?_
      refine g_cV (n := 26) hC gv_X8_76 (hD 0 (by decide)) mdl_0 (M_cells K hD (show mB (scS sc x y u) w h from hB)) dX8_near_23 ?_
      refine g_icmp_ge (n := 29) (tgt := 89) hC dX8_near_26 (fun h26 => ?_) (fun h26 => ?_)
      ·
        have hie := (chI_ge hn hi).mp h26
        refine g_iload_n (n := 90) hC rfl dX8_near_89 ?_
        exact g_iret hC dX8_near_90 (⟨rI (by rw [hie]), rfl, rfl, x, y, u, e, cb, _, rfl⟩)
      ·
        have hin : i ≤ w * h := by
          have h9 : ¬ (i = w * h + 1) := fun q => h26 ((chI_ge hn hi).mpr q)
          omega
        refine g_aload_n (n := 30) hC rfl dX8_near_29 ?_
        refine g_iload (n := 32) hC rfl dX8_near_30 ?_
        refine g_cV (n := 35) hC gv_X8_157 (hD 0 (by decide)) mdl_0 (M_mayChoose K hD (show mB (scS sc x y u) w h from hB) (x := chI i) (chI_ok hin)) dX8_near_32 ?_
        refine g_ifb_ne (n := 38) (tgt := 41) hC dX8_near_35 (fun h35 => ?_) (fun h35 => ?_)
        ·
          have h35 : mayF (ar 5) (chI i) := h35
          refine g_aload_n (n := 42) hC rfl dX8_near_41 ?_
          refine g_iload_n (n := 43) hC rfl dX8_near_42 ?_
          refine g_iload_n (n := 44) hC rfl dX8_near_43 ?_
          refine g_iload (n := 46) hC rfl dX8_near_44 ?_
          refine g_callV hC gv_X8_199 (M_makes K hD (show mB (scS sc x y u) w h from hB) (p := p) hp hch (chI_ok hin)) (hD 0 (by decide)) mdl_0 (by rfl) (by decide) (by decide) (by rfl) (by rfl) (Nat.le_of_ble_eq_true rfl) (by exact ⟨Nat.le_refl _, Nat.le_refl _⟩) dX8_near_46 (fun rv9 z9 L9 σ9 hp9 => ?_)
          obtain ⟨rfl, hz9, hL9, x_n1, y_n1, u_n1, e_n1, cb_n1, hs9⟩ := hp9
          rw [hz9, hL9, hs9]
          refine G.eqs (show _ = mdl K M (scS sc x_n1 y_n1 u_n1) (arX ar (plU w h (sc 3) (ar 5) (ar 4) p ch (chI i)) e_n1 cb_n1 (ar 6) (cpF (ar 5) (ar 7) 155)) σ0 from (by rw [scS_scS, arX_S]; rfl)) ?_
          show G K Γ (z, 0, 0, L) (mdl K M (scS sc x_n1 y_n1 u_n1) (arX ar (plU w h (sc 3) (ar 5) (ar 4) p ch (chI i)) e_n1 cb_n1 (ar 6) (cpF (ar 5) (ar 7) 155)) σ0) 49 [some (.ref M), some (.int (nI p)), some (.int ch), some (.int (nrF w h (sc 3) (ar 4) p (ar 5) ch i)), some (.int (chI i)), none] []
          refine g_aload_n (n := 50) hC rfl dX8_near_49 ?_
          refine g_iload_n (n := 51) hC rfl dX8_near_50 ?_
          refine g_cV (n := 54) hC gv_X8_202 (hD 0 (by decide)) mdl_0 (M_outcome K hD (show mB (scS sc x_n1 y_n1 u_n1) w h from hB) (p := p) hp) dX8_near_51 ?_
          refine g_istore (n := 56) (ll1 := [some (.ref M), some (.int (nI p)), some (.int ch), some (.int (nrF w h (sc 3) (ar 4) p (ar 5) ch i)), some (.int (chI i)), some (.int (ovl (ar 4) (w * h) p (plU w h (sc 3) (ar 5) (ar 4) p ch (chI i))))]) hC dX8_near_54 rfl ?_
          refine g_iload (n := 58) hC rfl dX8_near_56 ?_
          refine g_iload_n (n := 59) hC rfl dX8_near_58 ?_
          refine g_icmp_ge (n := 62) (tgt := 67) hC dX8_near_59 (fun h59 => ?_) (fun h59 => ?_)
          ·
            refine g_iload_n (n := 68) hC rfl dX8_near_67 ?_
            refine g_istore_n (n := 69) (ll1 := [some (.ref M), some (.int (nI p)), some (.int ch), some (.int (nrF w h (sc 3) (ar 4) p (ar 5) ch i)), some (.int (chI i)), some (.int (ovl (ar 4) (w * h) p (plU w h (sc 3) (ar 5) (ar 4) p ch (chI i))))]) hC dX8_near_68 rfl ?_
            refine g_aload_n (n := 70) hC rfl dX8_near_69 ?_
            refine m_get (v := .ref (M + 4)) (n := 73) hC hD gf_X8_26 dX8_near_70 rfl ?_
            refine g_aload_n (n := 74) hC rfl dX8_near_73 ?_
            refine m_get (v := .ref (M + 2)) (n := 77) hC hD gf_X8_20 dX8_near_74 rfl ?_
            refine g_sipush (n := 80) (v := (nI 155)) hC (by decide) dX8_near_77 ?_
            refine g_cSv (n := 83) hC gs_X8_192 (M_copies K (n := 155) (m := 155) (k := 155) (f := (cpF (ar 5) (ar 7) 155)) (g := (plU w h (sc 3) (ar 5) (ar 4) p ch (chI i))) (hD 4 (by decide)) (hD 2 (by decide)) (by omega) mdl_7 mdl_5 (by omega) (by omega) (by decide) (by decide)) dX8_near_80 ?_
            refine G.eqs mdl_s5 ?_
            refine G.eqs (show _ = mdl K M (scS sc x_n1 y_n1 u_n1) (arX ar (ar 5) e_n1 cb_n1 (ar 6) (cpF (ar 5) (ar 7) 155)) σ0 from by rw [arX_v, cpF_back (hi_plU hn hch (chI_ok hin))]) ?_
            refine g_iinc (n := 86) (ll1 := [some (.ref M), some (.int (nI p)), some (.int ch), some (.int (nrF w h (sc 3) (ar 4) p (ar 5) ch i)), some (.int ((chI i) + Int32.ofInt (1))), some (.int (ovl (ar 4) (w * h) p (plU w h (sc 3) (ar 5) (ar 4) p ch (chI i))))]) hC dX8_near_83 rfl (rfl) rfl ?_
            refine g_goto (n := 20) hC dX8_near_86 ?_
            exact G.le (ih20 (i + 1) x_n1 y_n1 u_n1 e_n1 cb_n1 (by omega) _ (by first | rfl | (exact (nrF_n h35).symm) | (exact ((nrF_y h35).trans (mnI_t h59)).symm) | (exact ((nrF_y h35).trans (mnI_f h59)).symm)) _ (by first | exact chI_inc _ | exact chI_0.symm) (by omega)) (And.intro rfl (And.intro rfl (And.intro rfl (And.intro rfl (And.intro rfl (trivial))))))
          ·
            refine g_iload (n := 64) hC rfl dX8_near_62 ?_
            refine g_goto (n := 68) hC dX8_near_64 ?_
            refine g_istore_n (n := 69) (ll1 := [some (.ref M), some (.int (nI p)), some (.int ch), some (.int (ovl (ar 4) (w * h) p (plU w h (sc 3) (ar 5) (ar 4) p ch (chI i)))), some (.int (chI i)), some (.int (ovl (ar 4) (w * h) p (plU w h (sc 3) (ar 5) (ar 4) p ch (chI i))))]) hC dX8_near_68 rfl ?_
            refine g_aload_n (n := 70) hC rfl dX8_near_69 ?_
            refine m_get (v := .ref (M + 4)) (n := 73) hC hD gf_X8_26 dX8_near_70 rfl ?_
            refine g_aload_n (n := 74) hC rfl dX8_near_73 ?_
            refine m_get (v := .ref (M + 2)) (n := 77) hC hD gf_X8_20 dX8_near_74 rfl ?_
            refine g_sipush (n := 80) (v := (nI 155)) hC (by decide) dX8_near_77 ?_
            refine g_cSv (n := 83) hC gs_X8_192 (M_copies K (n := 155) (m := 155) (k := 155) (f := (cpF (ar 5) (ar 7) 155)) (g := (plU w h (sc 3) (ar 5) (ar 4) p ch (chI i))) (hD 4 (by decide)) (hD 2 (by decide)) (by omega) mdl_7 mdl_5 (by omega) (by omega) (by decide) (by decide)) dX8_near_80 ?_
            refine G.eqs mdl_s5 ?_
            refine G.eqs (show _ = mdl K M (scS sc x_n1 y_n1 u_n1) (arX ar (ar 5) e_n1 cb_n1 (ar 6) (cpF (ar 5) (ar 7) 155)) σ0 from by rw [arX_v, cpF_back (hi_plU hn hch (chI_ok hin))]) ?_
            refine g_iinc (n := 86) (ll1 := [some (.ref M), some (.int (nI p)), some (.int ch), some (.int (ovl (ar 4) (w * h) p (plU w h (sc 3) (ar 5) (ar 4) p ch (chI i)))), some (.int ((chI i) + Int32.ofInt (1))), some (.int (ovl (ar 4) (w * h) p (plU w h (sc 3) (ar 5) (ar 4) p ch (chI i))))]) hC dX8_near_83 rfl (rfl) rfl ?_
            refine g_goto (n := 20) hC dX8_near_86 ?_
            exact G.le (ih20 (i + 1) x_n1 y_n1 u_n1 e_n1 cb_n1 (by omega) _ (by first | rfl | (exact (nrF_n h35).symm) | (exact ((nrF_y h35).trans (mnI_t h59)).symm) | (exact ((nrF_y h35).trans (mnI_f h59)).symm)) _ (by first | exact chI_inc _ | exact chI_0.symm) (by omega)) (And.intro rfl (And.intro rfl (And.intro rfl (And.intro rfl (And.intro rfl (trivial))))))
        ·
          have h35 : ¬ mayF (ar 5) (chI i) := h35
          refine g_goto (n := 83) hC dX8_near_38 ?_
          refine g_iinc (n := 86) (ll1 := [some (.ref M), some (.int (nI p)), some (.int ch), some (.int (nrF w h (sc 3) (ar 4) p (ar 5) ch i)), some (.int ((chI i) + Int32.ofInt (1))), none]) hC dX8_near_83 rfl (rfl) rfl ?_
          refine g_goto (n := 20) hC dX8_near_86 ?_
          exact ih20 (i + 1) x y u e cb (by omega) _ (by first | rfl | (exact (nrF_n h35).symm) | (exact ((nrF_y h35).trans (mnI_t h59)).symm) | (exact ((nrF_y h35).trans (mnI_f h59)).symm)) _ (by first | exact chI_inc _ | exact chI_0.symm) (by omega)
  exact lp20 _ 0 (sc 22) (sc 23) (sc 24) (ar 20) (ar 21) (by omega) _ (by first | rfl | (exact (nrF_n h35).symm) | (exact ((nrF_y h35).trans (mnI_t h59)).symm) | (exact ((nrF_y h35).trans (mnI_f h59)).symm)) _ (by first | exact chI_inc _ | exact chI_0.symm) (Nat.lt_succ_self _)

set_option maxRecDepth 20000 in
set_option maxHeartbeats 2000000 in
theorem M_bestNear (K : GK) {M : Nat} {sc : Nat → Int32} {ar : Nat → Nat → Int32} {σ0 : GS} {L : List Nat} {z : Nat} (hD : mdom M L) {w h : Nat} (hB : mB sc w h) {p : Nat} (hp : p ≤ 1) : gM K yX8_bestNear cX8_bestNear 5 (some .int) 9 0 0 [.ref M, .int (nI p)] z L (mdl K M sc ar σ0) (fun r z1 L1 σ2 => r = some (.int (bnF w h (sc 3) (ar 4) p (ar 5) (w * h + 1))) ∧ z1 = z ∧ L1 = L ∧ ∃ (x y u : Int32) (e cb s : Nat → Int32), σ2 = mdl K M (scS sc x y u) (arX ar (ar 5) e cb (ar 6) s) σ0) := by
  obtain ⟨hw, hh, hw1, hw2, hh1, hh2⟩ := id hB
  have hn : w * h ≤ 49 := Nat.mul_le_mul hw2 hh2
  have hn1 : 16 ≤ w * h := Nat.mul_le_mul hw1 hh1
  refine g_intro [some (.ref M), some (.int (nI p)), none, none, none] (fun Γ hC => ?_) (by simp [g_en, lv_args, Value.category])
  refine g_ldc (n := 2) hC gc_X8_205 dX8_bestNear_0 ?_
  refine g_istore_n (n := 3) (ll1 := [some (.ref M), some (.int (nI p)), some (.int (-2147483648)), none, none]) hC dX8_bestNear_2 rfl ?_
  refine g_iconst (n := 4) (v := (-1)) hC (by decide) dX8_bestNear_3 ?_
  refine g_istore_n (n := 5) (ll1 := [some (.ref M), some (.int (nI p)), some (.int (-2147483648)), some (.int (-1)), none]) hC dX8_bestNear_4 rfl ?_
  have lp5 : ∀ (n9 : Nat) (i : Nat) (x : Int32) (y : Int32) (u : Int32) (e : Nat → Int32) (cb : Nat → Int32) (s : Nat → Int32) (hi : i ≤ w * h + 1) (y2 : Int32) (ey2 : y2 = (bnF w h (sc 3) (ar 4) p (ar 5) i)) (y3 : Int32) (ey3 : y3 = (chI i)) (hm9 : w * h + 1 - i < n9), G K Γ (z, 0, 0, L) (mdl K M (scS sc x y u) (arX ar (ar 5) e cb (ar 6) s) σ0) 5 [some (.ref M), some (.int (nI p)), some (.int y2), some (.int y3), none] [] := by
    intro n9
    induction n9 with
    | zero =>
      intro i x y u e cb s hi y2 ey2 y3 ey3 hm9
      exact absurd hm9 (Nat.not_lt_zero _)
    | succ n9 ih5 =>
      intro i x y u e cb s hi y2 ey2 y3 ey3 hm9
      subst ey2
      subst ey3
      refine g_iload_n (n := 6) hC rfl dX8_bestNear_5 ?_
      refine g_aload_n (n := 7) hC rfl dX8_bestNear_6 ?_
      refine g_cV (n := 10) hC gv_X8_76 (hD 0 (by decide)) mdl_0 (M_cells K hD (show mB (scS sc x y u) w h from hB)) dX8_bestNear_7 ?_
      refine g_icmp_ge (n := 13) (tgt := 51) hC dX8_bestNear_10 (fun h10 => ?_) (fun h10 => ?_)
      ·
        have hie := (chI_ge hn hi).mp h10
        refine g_iload_n (n := 52) hC rfl dX8_bestNear_51 ?_
        exact g_iret hC dX8_bestNear_52 (⟨rI (by rw [hie]), rfl, rfl, x, y, u, e, cb, s, rfl⟩)
      ·
        have hin : i ≤ w * h := by
          have h9 : ¬ (i = w * h + 1) := fun q => h10 ((chI_ge hn hi).mpr q)
          omega
        refine g_aload_n (n := 14) hC rfl dX8_bestNear_13 ?_
        refine g_iload_n (n := 15) hC rfl dX8_bestNear_14 ?_
        refine g_cV (n := 18) hC gv_X8_157 (hD 0 (by decide)) mdl_0 (M_mayChoose K hD (show mB (scS sc x y u) w h from hB) (x := chI i) (chI_ok hin)) dX8_bestNear_15 ?_
        refine g_ifb_ne (n := 21) (tgt := 24) hC dX8_bestNear_18 (fun h18 => ?_) (fun h18 => ?_)
        ·
          have h18 : mayF (ar 5) (chI i) := h18
          refine g_aload_n (n := 25) hC rfl dX8_bestNear_24 ?_
          refine g_iload_n (n := 26) hC rfl dX8_bestNear_25 ?_
          refine g_iload_n (n := 27) hC rfl dX8_bestNear_26 ?_
          refine g_callV hC gv_X8_206 (M_near K hD (show mB (scS sc x y u) w h from hB) (p := p) hp (chI_ok hin)) (hD 0 (by decide)) mdl_0 (by rfl) (by decide) (by decide) (by rfl) (by rfl) (Nat.le_of_ble_eq_true rfl) (by exact ⟨Nat.le_refl _, Nat.le_refl _⟩) dX8_bestNear_27 (fun rv9 z9 L9 σ9 hp9 => ?_)
          obtain ⟨rfl, hz9, hL9, x_n1, y_n1, u_n1, e_n1, cb_n1, s_n1, hs9⟩ := hp9
          rw [hz9, hL9, hs9]
          refine G.eqs (show _ = mdl K M (scS sc x_n1 y_n1 u_n1) (arX ar (ar 5) e_n1 cb_n1 (ar 6) s_n1) σ0 from (by rw [scS_scS, arX_X]; rfl)) ?_
          show G K Γ (z, 0, 0, L) (mdl K M (scS sc x_n1 y_n1 u_n1) (arX ar (ar 5) e_n1 cb_n1 (ar 6) s_n1) σ0) 30 [some (.ref M), some (.int (nI p)), some (.int (bnF w h (sc 3) (ar 4) p (ar 5) i)), some (.int (chI i)), none] [.int (nrF w h (sc 3) (ar 4) p (ar 5) (chI i) (w * h + 1))]
          refine g_istore (n := 32) (ll1 := [some (.ref M), some (.int (nI p)), some (.int (bnF w h (sc 3) (ar 4) p (ar 5) i)), some (.int (chI i)), some (.int (nrF w h (sc 3) (ar 4) p (ar 5) (chI i) (w * h + 1)))]) hC dX8_bestNear_30 rfl ?_
          refine g_iload (n := 34) hC rfl dX8_bestNear_32 ?_
          refine g_iload_n (n := 35) hC rfl dX8_bestNear_34 ?_
          refine g_icmp_le (n := 38) (tgt := 43) hC dX8_bestNear_35 (fun h35 => ?_) (fun h35 => ?_)
          ·
            refine g_iload_n (n := 44) hC rfl dX8_bestNear_43 ?_
            refine g_istore_n (n := 45) (ll1 := [some (.ref M), some (.int (nI p)), some (.int (bnF w h (sc 3) (ar 4) p (ar 5) i)), some (.int (chI i)), some (.int (nrF w h (sc 3) (ar 4) p (ar 5) (chI i) (w * h + 1)))]) hC dX8_bestNear_44 rfl ?_
            refine g_iinc (n := 48) (ll1 := [some (.ref M), some (.int (nI p)), some (.int (bnF w h (sc 3) (ar 4) p (ar 5) i)), some (.int ((chI i) + Int32.ofInt (1))), some (.int (nrF w h (sc 3) (ar 4) p (ar 5) (chI i) (w * h + 1)))]) hC dX8_bestNear_45 rfl (rfl) rfl ?_
            refine g_goto (n := 5) hC dX8_bestNear_48 ?_
            exact G.le (ih5 (i + 1) x_n1 y_n1 u_n1 e_n1 cb_n1 s_n1 (by omega) _ (by first | rfl | (exact (bnF_n h18).symm) | (exact ((bnF_y h18).trans (mxI_t h35)).symm) | (exact ((bnF_y h18).trans (mxI_f h35)).symm)) _ (by first | exact chI_inc _ | exact chI_0.symm) (by omega)) (And.intro rfl (And.intro rfl (And.intro rfl (And.intro rfl (trivial)))))
          ·
            refine g_iload (n := 40) hC rfl dX8_bestNear_38 ?_
            refine g_goto (n := 44) hC dX8_bestNear_40 ?_
            refine g_istore_n (n := 45) (ll1 := [some (.ref M), some (.int (nI p)), some (.int (nrF w h (sc 3) (ar 4) p (ar 5) (chI i) (w * h + 1))), some (.int (chI i)), some (.int (nrF w h (sc 3) (ar 4) p (ar 5) (chI i) (w * h + 1)))]) hC dX8_bestNear_44 rfl ?_
            refine g_iinc (n := 48) (ll1 := [some (.ref M), some (.int (nI p)), some (.int (nrF w h (sc 3) (ar 4) p (ar 5) (chI i) (w * h + 1))), some (.int ((chI i) + Int32.ofInt (1))), some (.int (nrF w h (sc 3) (ar 4) p (ar 5) (chI i) (w * h + 1)))]) hC dX8_bestNear_45 rfl (rfl) rfl ?_
            refine g_goto (n := 5) hC dX8_bestNear_48 ?_
            exact G.le (ih5 (i + 1) x_n1 y_n1 u_n1 e_n1 cb_n1 s_n1 (by omega) _ (by first | rfl | (exact (bnF_n h18).symm) | (exact ((bnF_y h18).trans (mxI_t h35)).symm) | (exact ((bnF_y h18).trans (mxI_f h35)).symm)) _ (by first | exact chI_inc _ | exact chI_0.symm) (by omega)) (And.intro rfl (And.intro rfl (And.intro rfl (And.intro rfl (trivial)))))
        ·
          have h18 : ¬ mayF (ar 5) (chI i) := h18
          refine g_goto (n := 45) hC dX8_bestNear_21 ?_
          refine g_iinc (n := 48) (ll1 := [some (.ref M), some (.int (nI p)), some (.int (bnF w h (sc 3) (ar 4) p (ar 5) i)), some (.int ((chI i) + Int32.ofInt (1))), none]) hC dX8_bestNear_45 rfl (rfl) rfl ?_
          refine g_goto (n := 5) hC dX8_bestNear_48 ?_
          exact ih5 (i + 1) x y u e cb s (by omega) _ (by first | rfl | (exact (bnF_n h18).symm) | (exact ((bnF_y h18).trans (mxI_t h35)).symm) | (exact ((bnF_y h18).trans (mxI_f h35)).symm)) _ (by first | exact chI_inc _ | exact chI_0.symm) (by omega)
  refine G.eqs (show _ = mdl K M (scS sc (sc 22) (sc 23) (sc 24)) (arX ar (ar 5) (ar 20) (ar 21) (ar 6) (ar 7)) σ0 from (by rw [← scS_id, ← arX_id])) ?_
  exact lp5 _ 0 (sc 22) (sc 23) (sc 24) (ar 20) (ar 21) (ar 7) (by omega) _ (by first | rfl | (exact (bnF_n h18).symm) | (exact ((bnF_y h18).trans (mxI_t h35)).symm) | (exact ((bnF_y h18).trans (mxI_f h35)).symm)) _ (by first | exact chI_inc _ | exact chI_0.symm) (Nat.lt_succ_self _)

set_option maxRecDepth 20000 in
set_option maxHeartbeats 4000000 in
theorem M_far (K : GK) {M : Nat} {sc : Nat → Int32} {ar : Nat → Nat → Int32} {σ0 : GS} {L : List Nat} {z : Nat} (hD : mdom M L) {w h : Nat} (hB : mB sc w h) {p : Nat} {ch : Int32} (hp : p ≤ 1) (hch : chOK (w * h) ch) : gM K yX8_far cX8_far 6 (some .int) 10 0 0 [.ref M, .int (nI p), .int ch] z L (mdl K M sc ar σ0) (fun r z1 L1 σ2 => r = some (.int (frF w h (sc 3) (ar 4) p (ar 5) ch (w * h + 1))) ∧ z1 = z ∧ L1 = L ∧ ∃ (x y u : Int32) (e cb f s : Nat → Int32), σ2 = mdl K M (scS sc x y u) (arX ar (ar 5) e cb f s) σ0) := by
  obtain ⟨hw, hh, hw1, hw2, hh1, hh2⟩ := id hB
  have hn : w * h ≤ 49 := Nat.mul_le_mul hw2 hh2
  have hn1 : 16 ≤ w * h := Nat.mul_le_mul hw1 hh1
  refine g_intro [some (.ref M), some (.int (nI p)), some (.int ch), none, none, none] (fun Γ hC => ?_) (by simp [g_en, lv_args, Value.category])
  refine g_aload_n (n := 1) hC rfl dX8_far_0 ?_
  refine m_get (v := .ref (M + 2)) (n := 4) hC hD gf_X8_20 dX8_far_1 rfl ?_
  refine g_aload_n (n := 5) hC rfl dX8_far_4 ?_
  refine m_get (v := .ref (M + 3)) (n := 8) hC hD gf_X8_23 dX8_far_5 rfl ?_
  refine g_sipush (n := 11) (v := (nI 155)) hC (by decide) dX8_far_8 ?_
  refine g_cSv (n := 14) hC gs_X8_192 (M_copies K (n := 155) (m := 155) (k := 155) (f := (ar 5)) (g := (ar 6)) (hD 2 (by decide)) (hD 3 (by decide)) (by omega) mdl_5 mdl_6 (by omega) (by omega) (by decide) (by decide)) dX8_far_11 ?_
  refine G.eqs mdl_s6 ?_
  refine G.eqs (show _ = mdl K M (scS sc (sc 22) (sc 23) (sc 24)) (arX ar (ar 5) (ar 20) (ar 21) (cpF (ar 5) (ar 6) 155) (ar 7)) σ0 from by rw [← scS_id]; exact congrArg (fun q => mdl K M sc q σ0) (arX_eq rfl rfl rfl rfl rfl (fun i h1 h2 h3 h4 h5 => by rw [arX_o h1 h2 h3 h4 h5, va_up_ne _ _ h2]))) ?_
  refine g_ldc (n := 16) hC gc_X8_198 dX8_far_14 ?_
  refine g_istore_n (n := 17) (ll1 := [some (.ref M), some (.int (nI p)), some (.int ch), some (.int (2147483647)), none, none]) hC dX8_far_16 rfl ?_
  refine g_iconst (n := 18) (v := (-1)) hC (by decide) dX8_far_17 ?_
  refine g_istore (n := 20) (ll1 := [some (.ref M), some (.int (nI p)), some (.int ch), some (.int (2147483647)), some (.int (-1)), none]) hC dX8_far_18 rfl ?_
  have lp20 : ∀ (n9 : Nat) (i : Nat) (x : Int32) (y : Int32) (u : Int32) (e : Nat → Int32) (cb : Nat → Int32) (s : Nat → Int32) (hi : i ≤ w * h + 1) (y3 : Int32) (ey3 : y3 = (frF w h (sc 3) (ar 4) p (ar 5) ch i)) (y4 : Int32) (ey4 : y4 = (chI i)) (hm9 : w * h + 1 - i < n9), G K Γ (z, 0, 0, L) (mdl K M (scS sc x y u) (arX ar (ar 5) e cb (cpF (ar 5) (ar 6) 155) s) σ0) 20 [some (.ref M), some (.int (nI p)), some (.int ch), some (.int y3), some (.int y4), none] [] := by
    intro n9
    induction n9 with
    | zero =>
      intro i x y u e cb s hi y3 ey3 y4 ey4 hm9
      exact absurd hm9 (Nat.not_lt_zero _)
    | succ n9 ih20 =>
      intro i x y u e cb s hi y3 ey3 y4 ey4 hm9
      subst ey3
      subst ey4
      refine g_iload (n := 22) hC rfl dX8_far_20 ?_
      refine g_aload_n (n := 23) hC rfl dX8_far_22 ?_
      refine g_cV (n := 26) hC gv_X8_76 (hD 0 (by decide)) mdl_0 (M_cells K hD (show mB (scS sc x y u) w h from hB)) dX8_far_23 ?_
      refine g_icmp_ge (n := 29) (tgt := 104) hC dX8_far_26 (fun h26 => ?_) (fun h26 => ?_)
      ·
        have hie := (chI_ge hn hi).mp h26
        refine g_iload_n (n := 105) hC rfl dX8_far_104 ?_
        exact g_iret hC dX8_far_105 (⟨rI (by rw [hie]), rfl, rfl, x, y, u, e, cb, _, s, rfl⟩)
      ·
        have hin : i ≤ w * h := by
          have h9 : ¬ (i = w * h + 1) := fun q => h26 ((chI_ge hn hi).mpr q)
          omega
        refine g_aload_n (n := 30) hC rfl dX8_far_29 ?_
        refine g_iload (n := 32) hC rfl dX8_far_30 ?_
        refine g_cV (n := 35) hC gv_X8_157 (hD 0 (by decide)) mdl_0 (M_mayChoose K hD (show mB (scS sc x y u) w h from hB) (x := chI i) (chI_ok hin)) dX8_far_32 ?_
        refine g_ifb_ne (n := 38) (tgt := 41) hC dX8_far_35 (fun h35 => ?_) (fun h35 => ?_)
        ·
          have h35 : mayF (ar 5) (chI i) := h35
          refine g_aload_n (n := 42) hC rfl dX8_far_41 ?_
          refine g_iload_n (n := 43) hC rfl dX8_far_42 ?_
          refine g_iload_n (n := 44) hC rfl dX8_far_43 ?_
          refine g_iload (n := 46) hC rfl dX8_far_44 ?_
          refine g_callV hC gv_X8_199 (M_makes K hD (show mB (scS sc x y u) w h from hB) (p := p) hp hch (chI_ok hin)) (hD 0 (by decide)) mdl_0 (by rfl) (by decide) (by decide) (by rfl) (by rfl) (Nat.le_of_ble_eq_true rfl) (by exact ⟨Nat.le_refl _, Nat.le_refl _⟩) dX8_far_46 (fun rv9 z9 L9 σ9 hp9 => ?_)
          obtain ⟨rfl, hz9, hL9, x_n1, y_n1, u_n1, e_n1, cb_n1, hs9⟩ := hp9
          rw [hz9, hL9, hs9]
          refine G.eqs (show _ = mdl K M (scS sc x_n1 y_n1 u_n1) (arX ar (plU w h (sc 3) (ar 5) (ar 4) p ch (chI i)) e_n1 cb_n1 (cpF (ar 5) (ar 6) 155) s) σ0 from (by rw [scS_scS, arX_S]; rfl)) ?_
          show G K Γ (z, 0, 0, L) (mdl K M (scS sc x_n1 y_n1 u_n1) (arX ar (plU w h (sc 3) (ar 5) (ar 4) p ch (chI i)) e_n1 cb_n1 (cpF (ar 5) (ar 6) 155) s) σ0) 49 [some (.ref M), some (.int (nI p)), some (.int ch), some (.int (frF w h (sc 3) (ar 4) p (ar 5) ch i)), some (.int (chI i)), none] []
          refine g_aload_n (n := 50) hC rfl dX8_far_49 ?_
          refine g_cV (n := 53) hC gv_X8_170 (hD 0 (by decide)) mdl_0 (M_over K hD (show mB (scS sc x_n1 y_n1 u_n1) w h from hB)) dX8_far_50 ?_
          refine g_ifb_eq (n := 56) (tgt := 64) hC dX8_far_53 (fun h53 => ?_) (fun h53 => ?_)
          ·
            refine g_aload_n (n := 65) hC rfl dX8_far_64 ?_
            refine g_iload_n (n := 66) hC rfl dX8_far_65 ?_
            refine g_callV hC gv_X8_210 (M_bestNear K hD (show mB (scS sc x_n1 y_n1 u_n1) w h from hB) (p := p) hp) (hD 0 (by decide)) mdl_0 (by rfl) (by decide) (by decide) (by rfl) (by rfl) (Nat.le_of_ble_eq_true rfl) (by exact ⟨Nat.le_refl _, Nat.le_refl _⟩) dX8_far_66 (fun rv9 z9 L9 σ9 hp9 => ?_)
            obtain ⟨rfl, hz9, hL9, x_n2, y_n2, u_n2, e_n2, cb_n2, s_n2, hs9⟩ := hp9
            rw [hz9, hL9, hs9]
            refine G.eqs (show _ = mdl K M (scS sc x_n2 y_n2 u_n2) (arX ar (plU w h (sc 3) (ar 5) (ar 4) p ch (chI i)) e_n2 cb_n2 (cpF (ar 5) (ar 6) 155) s_n2) σ0 from (by rw [scS_scS, arX_X]; rfl)) ?_
            show G K Γ (z, 0, 0, L) (mdl K M (scS sc x_n2 y_n2 u_n2) (arX ar (plU w h (sc 3) (ar 5) (ar 4) p ch (chI i)) e_n2 cb_n2 (cpF (ar 5) (ar 6) 155) s_n2) σ0) 69 [some (.ref M), some (.int (nI p)), some (.int ch), some (.int (frF w h (sc 3) (ar 4) p (ar 5) ch i)), some (.int (chI i)), none] [.int (bnF w h (sc 3) (ar 4) p (plU w h (sc 3) (ar 5) (ar 4) p ch (chI i)) (w * h + 1))]
            refine g_istore (n := 71) (ll1 := [some (.ref M), some (.int (nI p)), some (.int ch), some (.int (frF w h (sc 3) (ar 4) p (ar 5) ch i)), some (.int (chI i)), some (.int (bnF w h (sc 3) (ar 4) p (plU w h (sc 3) (ar 5) (ar 4) p ch (chI i)) (w * h + 1)))]) hC dX8_far_69 rfl ?_
            refine g_iload (n := 73) hC rfl dX8_far_71 ?_
            refine g_iload_n (n := 74) hC rfl dX8_far_73 ?_
            refine g_icmp_ge (n := 77) (tgt := 82) hC dX8_far_74 (fun h74 => ?_) (fun h74 => ?_)
            ·
              refine g_iload_n (n := 83) hC rfl dX8_far_82 ?_
              refine g_istore_n (n := 84) (ll1 := [some (.ref M), some (.int (nI p)), some (.int ch), some (.int (frF w h (sc 3) (ar 4) p (ar 5) ch i)), some (.int (chI i)), some (.int (bnF w h (sc 3) (ar 4) p (plU w h (sc 3) (ar 5) (ar 4) p ch (chI i)) (w * h + 1)))]) hC dX8_far_83 rfl ?_
              refine g_aload_n (n := 85) hC rfl dX8_far_84 ?_
              refine m_get (v := .ref (M + 3)) (n := 88) hC hD gf_X8_23 dX8_far_85 rfl ?_
              refine g_aload_n (n := 89) hC rfl dX8_far_88 ?_
              refine m_get (v := .ref (M + 2)) (n := 92) hC hD gf_X8_20 dX8_far_89 rfl ?_
              refine g_sipush (n := 95) (v := (nI 155)) hC (by decide) dX8_far_92 ?_
              refine g_cSv (n := 98) hC gs_X8_192 (M_copies K (n := 155) (m := 155) (k := 155) (f := (cpF (ar 5) (ar 6) 155)) (g := (plU w h (sc 3) (ar 5) (ar 4) p ch (chI i))) (hD 3 (by decide)) (hD 2 (by decide)) (by omega) mdl_6 mdl_5 (by omega) (by omega) (by decide) (by decide)) dX8_far_95 ?_
              refine G.eqs mdl_s5 ?_
              refine G.eqs (show _ = mdl K M (scS sc x_n2 y_n2 u_n2) (arX ar (ar 5) e_n2 cb_n2 (cpF (ar 5) (ar 6) 155) s_n2) σ0 from by rw [arX_v, cpF_back (hi_plU hn hch (chI_ok hin))]) ?_
              refine g_iinc (n := 101) (ll1 := [some (.ref M), some (.int (nI p)), some (.int ch), some (.int (frF w h (sc 3) (ar 4) p (ar 5) ch i)), some (.int ((chI i) + Int32.ofInt (1))), some (.int (bnF w h (sc 3) (ar 4) p (plU w h (sc 3) (ar 5) (ar 4) p ch (chI i)) (w * h + 1)))]) hC dX8_far_98 rfl (rfl) rfl ?_
              refine g_goto (n := 20) hC dX8_far_101 ?_
              exact G.le (ih20 (i + 1) x_n2 y_n2 u_n2 e_n2 cb_n2 s_n2 (by omega) _ (by have h8 := (frF_y h35).trans ( ((congrArg (fun q => mnI q _) (frV_f h53)).trans (mnI_f h74))); exact h8.symm) _ (by first | exact chI_inc _ | exact chI_0.symm) (by omega)) (And.intro rfl (And.intro rfl (And.intro rfl (And.intro rfl (And.intro rfl (trivial))))))
            ·
              refine g_iload (n := 79) hC rfl dX8_far_77 ?_
              refine g_goto (n := 83) hC dX8_far_79 ?_
              refine g_istore_n (n := 84) (ll1 := [some (.ref M), some (.int (nI p)), some (.int ch), some (.int (bnF w h (sc 3) (ar 4) p (plU w h (sc 3) (ar 5) (ar 4) p ch (chI i)) (w * h + 1))), some (.int (chI i)), some (.int (bnF w h (sc 3) (ar 4) p (plU w h (sc 3) (ar 5) (ar 4) p ch (chI i)) (w * h + 1)))]) hC dX8_far_83 rfl ?_
              refine g_aload_n (n := 85) hC rfl dX8_far_84 ?_
              refine m_get (v := .ref (M + 3)) (n := 88) hC hD gf_X8_23 dX8_far_85 rfl ?_
              refine g_aload_n (n := 89) hC rfl dX8_far_88 ?_
              refine m_get (v := .ref (M + 2)) (n := 92) hC hD gf_X8_20 dX8_far_89 rfl ?_
              refine g_sipush (n := 95) (v := (nI 155)) hC (by decide) dX8_far_92 ?_
              refine g_cSv (n := 98) hC gs_X8_192 (M_copies K (n := 155) (m := 155) (k := 155) (f := (cpF (ar 5) (ar 6) 155)) (g := (plU w h (sc 3) (ar 5) (ar 4) p ch (chI i))) (hD 3 (by decide)) (hD 2 (by decide)) (by omega) mdl_6 mdl_5 (by omega) (by omega) (by decide) (by decide)) dX8_far_95 ?_
              refine G.eqs mdl_s5 ?_
              refine G.eqs (show _ = mdl K M (scS sc x_n2 y_n2 u_n2) (arX ar (ar 5) e_n2 cb_n2 (cpF (ar 5) (ar 6) 155) s_n2) σ0 from by rw [arX_v, cpF_back (hi_plU hn hch (chI_ok hin))]) ?_
              refine g_iinc (n := 101) (ll1 := [some (.ref M), some (.int (nI p)), some (.int ch), some (.int (bnF w h (sc 3) (ar 4) p (plU w h (sc 3) (ar 5) (ar 4) p ch (chI i)) (w * h + 1))), some (.int ((chI i) + Int32.ofInt (1))), some (.int (bnF w h (sc 3) (ar 4) p (plU w h (sc 3) (ar 5) (ar 4) p ch (chI i)) (w * h + 1)))]) hC dX8_far_98 rfl (rfl) rfl ?_
              refine g_goto (n := 20) hC dX8_far_101 ?_
              exact G.le (ih20 (i + 1) x_n2 y_n2 u_n2 e_n2 cb_n2 s_n2 (by omega) _ (by have h8 := (frF_y h35).trans ( ((congrArg (fun q => mnI q _) (frV_f h53)).trans (mnI_t h74))); exact h8.symm) _ (by first | exact chI_inc _ | exact chI_0.symm) (by omega)) (And.intro rfl (And.intro rfl (And.intro rfl (And.intro rfl (And.intro rfl (trivial))))))
          ·
            refine g_aload_n (n := 57) hC rfl dX8_far_56 ?_
            refine g_iload_n (n := 58) hC rfl dX8_far_57 ?_
            refine g_cV (n := 61) hC gv_X8_202 (hD 0 (by decide)) mdl_0 (M_outcome K hD (show mB (scS sc x_n1 y_n1 u_n1) w h from hB) (p := p) hp) dX8_far_58 ?_
            refine g_goto (n := 69) hC dX8_far_61 ?_
            refine g_istore (n := 71) (ll1 := [some (.ref M), some (.int (nI p)), some (.int ch), some (.int (frF w h (sc 3) (ar 4) p (ar 5) ch i)), some (.int (chI i)), some (.int (ovl (ar 4) (w * h) p (plU w h (sc 3) (ar 5) (ar 4) p ch (chI i))))]) hC dX8_far_69 rfl ?_
            refine g_iload (n := 73) hC rfl dX8_far_71 ?_
            refine g_iload_n (n := 74) hC rfl dX8_far_73 ?_
            refine g_icmp_ge (n := 77) (tgt := 82) hC dX8_far_74 (fun h74 => ?_) (fun h74 => ?_)
            ·
              refine g_iload_n (n := 83) hC rfl dX8_far_82 ?_
              refine g_istore_n (n := 84) (ll1 := [some (.ref M), some (.int (nI p)), some (.int ch), some (.int (frF w h (sc 3) (ar 4) p (ar 5) ch i)), some (.int (chI i)), some (.int (ovl (ar 4) (w * h) p (plU w h (sc 3) (ar 5) (ar 4) p ch (chI i))))]) hC dX8_far_83 rfl ?_
              refine g_aload_n (n := 85) hC rfl dX8_far_84 ?_
              refine m_get (v := .ref (M + 3)) (n := 88) hC hD gf_X8_23 dX8_far_85 rfl ?_
              refine g_aload_n (n := 89) hC rfl dX8_far_88 ?_
              refine m_get (v := .ref (M + 2)) (n := 92) hC hD gf_X8_20 dX8_far_89 rfl ?_
              refine g_sipush (n := 95) (v := (nI 155)) hC (by decide) dX8_far_92 ?_
              refine g_cSv (n := 98) hC gs_X8_192 (M_copies K (n := 155) (m := 155) (k := 155) (f := (cpF (ar 5) (ar 6) 155)) (g := (plU w h (sc 3) (ar 5) (ar 4) p ch (chI i))) (hD 3 (by decide)) (hD 2 (by decide)) (by omega) mdl_6 mdl_5 (by omega) (by omega) (by decide) (by decide)) dX8_far_95 ?_
              refine G.eqs mdl_s5 ?_
              refine G.eqs (show _ = mdl K M (scS sc x_n1 y_n1 u_n1) (arX ar (ar 5) e_n1 cb_n1 (cpF (ar 5) (ar 6) 155) s) σ0 from by rw [arX_v, cpF_back (hi_plU hn hch (chI_ok hin))]) ?_
              refine g_iinc (n := 101) (ll1 := [some (.ref M), some (.int (nI p)), some (.int ch), some (.int (frF w h (sc 3) (ar 4) p (ar 5) ch i)), some (.int ((chI i) + Int32.ofInt (1))), some (.int (ovl (ar 4) (w * h) p (plU w h (sc 3) (ar 5) (ar 4) p ch (chI i))))]) hC dX8_far_98 rfl (rfl) rfl ?_
              refine g_goto (n := 20) hC dX8_far_101 ?_
              exact G.le (ih20 (i + 1) x_n1 y_n1 u_n1 e_n1 cb_n1 s (by omega) _ (by have h8 := (frF_y h35).trans ( ((congrArg (fun q => mnI q _) (frV_t h53)).trans (mnI_f h74))); exact h8.symm) _ (by first | exact chI_inc _ | exact chI_0.symm) (by omega)) (And.intro rfl (And.intro rfl (And.intro rfl (And.intro rfl (And.intro rfl (trivial))))))
            ·
              refine g_iload (n := 79) hC rfl dX8_far_77 ?_
              refine g_goto (n := 83) hC dX8_far_79 ?_
              refine g_istore_n (n := 84) (ll1 := [some (.ref M), some (.int (nI p)), some (.int ch), some (.int (ovl (ar 4) (w * h) p (plU w h (sc 3) (ar 5) (ar 4) p ch (chI i)))), some (.int (chI i)), some (.int (ovl (ar 4) (w * h) p (plU w h (sc 3) (ar 5) (ar 4) p ch (chI i))))]) hC dX8_far_83 rfl ?_
              refine g_aload_n (n := 85) hC rfl dX8_far_84 ?_
              refine m_get (v := .ref (M + 3)) (n := 88) hC hD gf_X8_23 dX8_far_85 rfl ?_
              refine g_aload_n (n := 89) hC rfl dX8_far_88 ?_
              refine m_get (v := .ref (M + 2)) (n := 92) hC hD gf_X8_20 dX8_far_89 rfl ?_
              refine g_sipush (n := 95) (v := (nI 155)) hC (by decide) dX8_far_92 ?_
              refine g_cSv (n := 98) hC gs_X8_192 (M_copies K (n := 155) (m := 155) (k := 155) (f := (cpF (ar 5) (ar 6) 155)) (g := (plU w h (sc 3) (ar 5) (ar 4) p ch (chI i))) (hD 3 (by decide)) (hD 2 (by decide)) (by omega) mdl_6 mdl_5 (by omega) (by omega) (by decide) (by decide)) dX8_far_95 ?_
              refine G.eqs mdl_s5 ?_
              refine G.eqs (show _ = mdl K M (scS sc x_n1 y_n1 u_n1) (arX ar (ar 5) e_n1 cb_n1 (cpF (ar 5) (ar 6) 155) s) σ0 from by rw [arX_v, cpF_back (hi_plU hn hch (chI_ok hin))]) ?_
              refine g_iinc (n := 101) (ll1 := [some (.ref M), some (.int (nI p)), some (.int ch), some (.int (ovl (ar 4) (w * h) p (plU w h (sc 3) (ar 5) (ar 4) p ch (chI i)))), some (.int ((chI i) + Int32.ofInt (1))), some (.int (ovl (ar 4) (w * h) p (plU w h (sc 3) (ar 5) (ar 4) p ch (chI i))))]) hC dX8_far_98 rfl (rfl) rfl ?_
              refine g_goto (n := 20) hC dX8_far_101 ?_
              exact G.le (ih20 (i + 1) x_n1 y_n1 u_n1 e_n1 cb_n1 s (by omega) _ (by have h8 := (frF_y h35).trans ( ((congrArg (fun q => mnI q _) (frV_t h53)).trans (mnI_t h74))); exact h8.symm) _ (by first | exact chI_inc _ | exact chI_0.symm) (by omega)) (And.intro rfl (And.intro rfl (And.intro rfl (And.intro rfl (And.intro rfl (trivial))))))
        ·
          have h35 : ¬ mayF (ar 5) (chI i) := h35
          refine g_goto (n := 98) hC dX8_far_38 ?_
          refine g_iinc (n := 101) (ll1 := [some (.ref M), some (.int (nI p)), some (.int ch), some (.int (frF w h (sc 3) (ar 4) p (ar 5) ch i)), some (.int ((chI i) + Int32.ofInt (1))), none]) hC dX8_far_98 rfl (rfl) rfl ?_
          refine g_goto (n := 20) hC dX8_far_101 ?_
          exact ih20 (i + 1) x y u e cb s (by omega) _ ((frF_n h35).symm) _ (by first | exact chI_inc _ | exact chI_0.symm) (by omega)
  exact lp20 _ 0 (sc 22) (sc 23) (sc 24) (ar 20) (ar 21) (ar 7) (by omega) _ (rfl) _ (by first | exact chI_inc _ | exact chI_0.symm) (Nat.lt_succ_self _)
