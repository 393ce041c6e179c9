/-! ===== the class: a game is copied ===== -/
def cpD (pl : Nat) (D2 D : Nat → RD) : Nat → RD := fun r => if r < pl ∨ r = 60 then D2 r else D r
theorem rdOf_eq {n : Nat} {d : RD} {f : Nat → Int32} (h : psM n d f) : rdOf n d.1 d.2.1 d.2.2.1 f = d := by
  obtain ⟨c, p, u, s⟩ := d
  obtain ⟨h1, h2, h3⟩ := h
  simp only [rdOf]
  have e : va_up (va_up c 4 (f 147)) 5 (f 148) = c := by
    funext i
    by_cases e5 : i = 5
    · subst e5; rw [va_up_self]; exact h2.symm
    · rw [va_up_ne _ _ e5]
      by_cases e4 : i = 4
      · subst e4; rw [va_up_self]; exact h1.symm
      · rw [va_up_ne _ _ e4]
  rw [e]
  congr 3
  exact h3.symm
theorem gm_copy {K : GK} {L : List Nat} {σ σ1 : GS} {g b b2 n : Nat} {ru ru2 : Int32} {pl pl2 : Nat} {x y x2 y2 : Int32} {D D2 : Nat → RD} {rows2 : Nat → Nat → Int32} (hG : gmI K L σ g b ru pl x y D) (hP2 : gmP n pl2 D2 rows2) (hb2 : b2 ∈ L)
    (e : σ1 = cpW K (va_up (psU K σ (g + 3) n (rows2 0)) g (gmO g b2 ru2 pl2 x2 y2)) g n D2 rows2 pl2) : gmI K L σ1 g b2 ru2 pl2 x2 y2 (cpD pl2 D2 D) ∧ ∀ a, (a < g ∨ g + 245 ≤ a ∨ a = g + 1) → σ1 a = σ a := by
  have hpl := hP2.1
  obtain ⟨⟨m0, m2, m3, m4, _⟩, s0, s2, s3, s4, hd9⟩ := hG
  have h60 : cpD pl2 D2 D 60 = D2 60 := if_pos (Or.inr rfl)
  obtain ⟨p1, p2, p3⟩ := hP2.2.1
  subst e
  refine ⟨⟨⟨m0, m2, m3, m4, hb2⟩, ?_, ?_, ?_, ?_, fun r hr => ?_⟩, fun a ha => ?_⟩
  · rw [cpW_o _ (by omega), va_up_self]
  · rw [cpW_o _ (by omega), va_up_ne _ _ (by omega), psU_at (by omega)]; exact s2
  · rw [cpW_o _ (by omega), va_up_ne _ _ (by omega), psU_a, h60, p1, p2, psO]
  · rw [cpW_o _ (by omega), va_up_ne _ _ (by omega), psU_b, h60, p3]
  · by_cases q : r < pl2
    · have hq : cpD pl2 D2 D r = D2 r := if_pos (Or.inl q)
      have h9 : rdI K L (rdU K (va_up (psU K σ (g + 3) n (rows2 0)) g (gmO g b2 ru2 pl2 x2 y2)) (g + 5 + 4 * r) n (D2 r).1 (D2 r).2.1 (D2 r).2.2.1 (rows2 (r + 1))) (g + 5 + 4 * r) n (D2 r).1 (D2 r).2.1 (D2 r).2.2.1 (rows2 (r + 1)) := rdU_I (hd9 r hr).1
      have h8 := rdI_D h9
      rw [rdOf_eq (hP2.2.2 r q)] at h8
      rw [hq]
      exact rdD_eq (fun b hb1 hb2 => cpW_r pl2 q b hb1 hb2) h8
    · have hq : cpD pl2 D2 D r = D r := if_neg (by omega)
      rw [hq]
      exact rdD_eq (fun b hb1 hb2 => by rw [cpW_o _ (by omega), va_up_ne _ _ (by omega), psU_at (by omega)]) (hd9 r hr)
  · rw [cpW_o _ (by omega), va_up_ne _ _ (by omega), psU_at (by omega)]
theorem gmP_copy {n pl2 : Nat} {D D2 : Nat → RD} {rows2 : Nat → Nat → Int32} (h : gmP n pl2 D2 rows2) : gmP n pl2 (cpD pl2 D2 D) rows2 := ⟨h.1, by rw [show cpD pl2 D2 D 60 = D2 60 from if_pos (Or.inr rfl)]; exact h.2.1, fun r hr => by rw [show cpD pl2 D2 D r = D2 r from if_pos (Or.inl hr)]; exact h.2.2 r hr⟩
theorem gmT_copy {pl2 : Nat} {D D2 : Nat → RD} (h : gmT D) (h2 : gmT D2) : gmT (cpD pl2 D2 D) := fun r hr => by
  by_cases q : r < pl2 ∨ r = 60
  · rw [show cpD pl2 D2 D r = D2 r from if_pos q]; exact h2 r hr
  · rw [show cpD pl2 D2 D r = D r from if_neg q]; exact h r hr

set_option maxRecDepth 20000 in
set_option maxHeartbeats 2000000 in
theorem X_gcopy (K : GK) {σ : GS} {L : List Nat} {z : Nat} {g b g2 b2 n : Nat} {ru ru2 : Int32} {pl pl2 : Nat} {bo0 bo1 xe ye : Int32} {D D2 : Nat → RD} {rows2 : Nat → Nat → Int32} (hG : gmI K L σ g b ru pl bo0 bo1 D) (hT : gmT D) (hG2 : gmI K L σ g2 b2 ru2 pl2 xe ye D2) (hT2 : gmT D2) (hP2 : gmP n pl2 D2 rows2) (hn : n ≤ 49) (hap : g + 245 ≤ g2 ∨ g2 + 245 ≤ g) : gT K yX2_copyFrom cX2_copyFrom 3 none 3 [.ref g, .ref g2] z L (σ) none (cpW K (va_up (psU K σ (g + 3) n (rows2 0)) g (gmO g b2 ru2 pl2 xe ye)) g n D2 rows2 pl2) := by
  have hpl2 := hP2.1
  obtain ⟨m0, m2, m3, m4, hbL⟩ := hG.1
  have s0 := hG.2.1
  have s2 := hG.2.2.1
  have s3 := hG.2.2.2.1
  have s4 := hG.2.2.2.2.1
  obtain ⟨k0, k2, k3, k4, hbL2⟩ := hG2.1
  have t0 := hG2.2.1
  have t2 := hG2.2.2.1
  have t3 := hG2.2.2.2.1
  have t4 := hG2.2.2.2.2.1
  refine g_intro [some (.ref g), some (.ref g2), none] (fun Γ hC => ?_) (by simp [g_en, lv_args, Value.category])
  refine g_aload_n (n := 1) hC rfl dX2_copyFrom_0 ?_
  refine g_aload_n (n := 2) hC rfl dX2_copyFrom_1 ?_
  refine g_getf (n := 5) (v := .ref b2) hC gf_X2_14 (k0) (t0) rfl dX2_copyFrom_2 ?_
  refine g_putf (n := 8) hC gp_X2_14 (m0) (s0) dX2_copyFrom_5 ?_
  refine G.eqs (show _ = va_up (σ) g (.inr (2, [.ref b2, .int ru, .int (nI pl), .ref (g + 2), .ref (g + 3), .int bo0, .int bo1])) from rfl) ?_
  refine g_aload_n (n := 9) hC rfl dX2_copyFrom_8 ?_
  refine g_aload_n (n := 10) hC rfl dX2_copyFrom_9 ?_
  refine g_getf (n := 13) (v := .int ru2) hC gf_X2_20 (k0) ((va_up_ne _ _ (by omega)).trans (t0)) rfl dX2_copyFrom_10 ?_
  refine g_putf (n := 16) hC gp_X2_20 (m0) (va_up_self _ _ _) dX2_copyFrom_13 ?_
  refine G.eqs (show _ = va_up (σ) g (.inr (2, [.ref b2, .int ru2, .int (nI pl), .ref (g + 2), .ref (g + 3), .int bo0, .int bo1])) from bx_uu _ _ _ _) ?_
  refine g_aload_n (n := 17) hC rfl dX2_copyFrom_16 ?_
  refine g_aload_n (n := 18) hC rfl dX2_copyFrom_17 ?_
  refine g_getf (n := 21) (v := .int xe) hC gf_X2_63 (k0) ((va_up_ne _ _ (by omega)).trans (t0)) rfl dX2_copyFrom_18 ?_
  refine g_putf (n := 24) hC gp_X2_63 (m0) (va_up_self _ _ _) dX2_copyFrom_21 ?_
  refine G.eqs (show _ = va_up (σ) g (.inr (2, [.ref b2, .int ru2, .int (nI pl), .ref (g + 2), .ref (g + 3), .int xe, .int bo1])) from bx_uu _ _ _ _) ?_
  refine g_aload_n (n := 25) hC rfl dX2_copyFrom_24 ?_
  refine g_aload_n (n := 26) hC rfl dX2_copyFrom_25 ?_
  refine g_getf (n := 29) (v := .int ye) hC gf_X2_66 (k0) ((va_up_ne _ _ (by omega)).trans (t0)) rfl dX2_copyFrom_26 ?_
  refine g_putf (n := 32) hC gp_X2_66 (m0) (va_up_self _ _ _) dX2_copyFrom_29 ?_
  refine G.eqs (show _ = va_up (σ) g (.inr (2, [.ref b2, .int ru2, .int (nI pl), .ref (g + 2), .ref (g + 3), .int xe, .int ye])) from bx_uu _ _ _ _) ?_
  refine g_aload_n (n := 33) hC rfl dX2_copyFrom_32 ?_
  refine g_getf (n := 36) (v := .ref (g + 3)) hC gf_X2_33 (m0) (va_up_self _ _ _) rfl dX2_copyFrom_33 ?_
  refine g_aload_n (n := 37) hC rfl dX2_copyFrom_36 ?_
  refine g_getf (n := 40) (v := .ref (g2 + 3)) hC gf_X2_33 (k0) ((va_up_ne _ _ (by omega)).trans (t0)) rfl dX2_copyFrom_37 ?_
  refine g_cVv (n := 43) hC gv_X2_73 (m3) ((va_up_ne _ _ (by omega)).trans (s3)) (X_copyFrom K (a := g + 3) (b := g2 + 3) (n := n) (f := rows2 0) m3 m4 ((va_up_ne _ _ (by omega)).trans (s3)) ((va_up_ne _ _ (by omega)).trans s4) (hT 60 (by omega)).1 k3 k4 (by rw [va_up_ne _ _ (by omega), t3, hP2.2.1.1, hP2.2.1.2.1, psO]) (by rw [va_up_ne _ _ (by omega), t4, hP2.2.1.2.2]) (by omega)) dX2_copyFrom_40 ?_
  refine g_aload_n (n := 44) hC rfl dX2_copyFrom_43 ?_
  refine g_aload_n (n := 45) hC rfl dX2_copyFrom_44 ?_
  refine g_getf (n := 48) (v := .int (nI pl2)) hC gf_X2_60 (k0) (((psU_at (by omega)).trans ((va_up_ne _ _ (by omega)).trans (t0)))) rfl dX2_copyFrom_45 ?_
  refine g_putf (n := 51) hC gp_X2_60 (m0) (((psU_at (by omega)).trans (va_up_self _ _ _))) dX2_copyFrom_48 ?_
  refine G.eqs (show _ = va_up (psU K (va_up (σ) g (.inr (2, [.ref b2, .int ru2, .int (nI pl), .ref (g + 2), .ref (g + 3), .int xe, .int ye]))) (g + 3) n (rows2 0)) g (.inr (2, [.ref b2, .int ru2, .int (nI pl2), .ref (g + 2), .ref (g + 3), .int xe, .int ye])) from rfl) ?_
  refine g_iconst (n := 52) (v := (nI 0)) hC (by decide) dX2_copyFrom_51 ?_
  refine g_istore_n (n := 53) (ll1 := [some (.ref g), some (.ref g2), some (.int (nI 0))]) hC dX2_copyFrom_52 rfl ?_
  have lp53 : ∀ (n9 : Nat) (i : Nat) (hi : i ≤ pl2) (y2 : Int32) (ey2 : y2 = (nI i)) (hm9 : pl2 - i < n9), G K Γ (z, 0, 0, L) (cpW K (va_up (psU K σ (g + 3) n (rows2 0)) g (gmO g b2 ru2 pl2 xe ye)) g n D2 rows2 i) 53 [some (.ref g), some (.ref g2), some (.int y2)] [] := by
    intro n9
    induction n9 with
    | zero =>
      intro i hi y2 ey2 hm9
      exact absurd hm9 (Nat.not_lt_zero _)
    | succ n9 ih53 =>
      intro i hi y2 ey2 hm9
      subst ey2
      refine g_iload_n (n := 54) hC rfl dX2_copyFrom_53 ?_
      refine g_aload_n (n := 55) hC rfl dX2_copyFrom_54 ?_
      refine g_getf (n := 58) (v := .int (nI pl2)) hC gf_X2_60 (m0) (((cpW_o i (by omega)).trans (va_up_self _ _ _))) rfl dX2_copyFrom_55 ?_
      refine g_icmp_geN (n := 61) (tgt := 88) hC (by omega) (by omega) dX2_copyFrom_58 (fun h58 => ?_) (fun h58 => ?_)
      ·
        exact g_vret hC dX2_copyFrom_88 (⟨rfl, rfl, rfl, (by rw [show i = pl2 by omega])⟩)
      ·
        refine g_iload_n (n := 62) hC rfl dX2_copyFrom_61 ?_
        refine g_bipush (n := 64) (v := (nI 60)) hC (by decide) dX2_copyFrom_62 ?_
        refine g_icmp_geN (n := 67) (tgt := 88) hC (by omega) (by omega) dX2_copyFrom_64 (fun h64 => absurd h64 (by omega)) (fun h64 => ?_)
        refine g_aload_n (n := 68) hC rfl dX2_copyFrom_67 ?_
        refine g_getf (n := 71) (v := .ref (g + 2)) hC gf_X2_26 (m0) (((cpW_o i (by omega)).trans (va_up_self _ _ _))) rfl dX2_copyFrom_68 ?_
        refine g_iload_n (n := 72) hC rfl dX2_copyFrom_71 ?_
        refine g_aald (n := 73) (j := i) (v := (g + 5 + 4 * i)) hC (m2) (((cpW_o i (by omega)).trans ((va_up_ne _ _ (by omega)).trans ((psU_at (by omega)).trans s2)))) (rfl) (by omega) (by decide) (rds_at (by omega)) dX2_copyFrom_72 ?_
        refine g_aload_n (n := 74) hC rfl dX2_copyFrom_73 ?_
        refine g_getf (n := 77) (v := .ref (g2 + 2)) hC gf_X2_26 (k0) (((cpW_o i (by omega)).trans ((va_up_ne _ _ (by omega)).trans ((psU_at (by omega)).trans t0)))) rfl dX2_copyFrom_74 ?_
        refine g_iload_n (n := 78) hC rfl dX2_copyFrom_77 ?_
        refine g_aald (n := 79) (j := i) (v := (g2 + 5 + 4 * i)) hC (k2) (((cpW_o i (by omega)).trans ((va_up_ne _ _ (by omega)).trans ((psU_at (by omega)).trans t2)))) (rfl) (by omega) (by decide) (rds_at (by omega)) dX2_copyFrom_78 ?_
        have hd1 := rdD_eq (σ' := cpW K (va_up (psU K σ (g + 3) n (rows2 0)) g (gmO g b2 ru2 pl2 xe ye)) g n D2 rows2 i) (fun b9 hb1 hb2 => by rw [cpW_o i (by omega), va_up_ne _ _ (by omega), psU_at (by omega)]) (gm_rd hG (r := i) (by omega))
        have hd2 := rdD_eq (σ' := cpW K (va_up (psU K σ (g + 3) n (rows2 0)) g (gmO g b2 ru2 pl2 xe ye)) g n D2 rows2 i) (fun b9 hb1 hb2 => by rw [cpW_o i (by omega), va_up_ne _ _ (by omega), psU_at (by omega)]) (gm_rd hG2 (r := i) (by omega))
        refine g_cVv (n := 82) hC gv_X2_77 (hd1.1.1) (hd1.2.1) (X_rcopy K hd1.1 hd1.2.1 hd1.2.2.1 hd1.2.2.2.1 hd1.2.2.2.2 (hT i (by omega)).1 (hT i (by omega)).2 (b := g2 + 5 + 4 * i) (n := n) (f := rows2 (i + 1)) (rdD_I hd2 (hP2.2.2 i (by omega))) (hT2 i (by omega)).2 (by omega)) dX2_copyFrom_79 ?_
        refine G.eqs (show _ = cpW K (va_up (psU K σ (g + 3) n (rows2 0)) g (gmO g b2 ru2 pl2 xe ye)) g n D2 rows2 (i + 1) from rfl) ?_
        refine g_iinc (n := 85) (ll1 := [some (.ref g), some (.ref g2), some (.int (nI (i + 1)))]) hC dX2_copyFrom_82 rfl (nI_inc _) rfl ?_
        refine g_goto (n := 53) hC dX2_copyFrom_85 ?_
        exact ih53 (i + 1) (by omega) _ (by first | rfl | (simp [*]; done)) (by omega)
  refine G.eqs (show _ = cpW K (va_up (psU K σ (g + 3) n (rows2 0)) g (gmO g b2 ru2 pl2 xe ye)) g n D2 rows2 0 from psU_g (by omega)) ?_
  exact lp53 _ 0 (by omega) _ (by first | rfl | (simp [*]; done)) (Nat.lt_succ_self _)

set_option maxRecDepth 20000 in
set_option maxHeartbeats 2000000 in
theorem X_newForesight (K : GK) {σ : GS} {L : List Nat} {a : Nat} (m0 : a ∈ L) (s0 : σ a = .inr (1, [.null, .null])) : gM K yX1_init cX1_init 1 none 3 8 48 [.ref a] (a + 1) L σ (fun r z1 L1 σ2 => r = none ∧ z1 = a + 9 ∧ L1 = ladd L (a + 1) 8 ∧ (σ2 a = .inr (1, [.ref (a + 1), .ref (a + 5)]) ∧ rdD K L1 σ2 (a + 1) d0R ∧ rdD K L1 σ2 (a + 5) d0R ∧ ∀ b, b < a ∨ a + 8 < b → σ2 b = σ b)) := by
  refine g_intro [some (.ref a)] (fun Γ hC => ?_) (by simp [g_en, lv_args, Value.category])
  show G K Γ (a + 1, 0, 0, ladd L (a + 1) 0) (σ) 0 [some (.ref a)] []
  refine g_aload_n (n := 1) hC rfl dX1_init_0 ?_
  refine g_objI (n := 4) hC (by exact gmem (i := 255) (by decide +kernel) (by decide +kernel)) dX1_init_1 ?_
  refine g_aload_n (n := 5) hC rfl dX1_init_4 ?_
  refine g_new (n := 8) hC gn_X1_9 dX1_init_5 ?_ (by exact ⟨Nat.le_of_ble_eq_true rfl, Nat.le_of_ble_eq_true rfl⟩)
  show G K Γ (a + 2, 1, 7, ladd L (a + 1) 1) (va_up (σ) (a + 1) (.inr (6, [.int 0, .int 0, .int 0, .int 0, .null, .long 0, .null]))) 8 [some (.ref a)] [.ref (a + 1), .ref a]
  refine g_dup (n := 9) hC rfl dX1_init_8 ?_
  refine g_callIN (rt2 := none) hC gi_X1_11 (X_newRd K (by exact ladd_new (i := 0) 1 (by decide)) (va_up_self _ _ _)) (by decide) (by decide) rfl (by rfl) (by exact Nat.le_of_ble_eq_true rfl) (by exact ⟨Nat.le_of_ble_eq_true rfl, Nat.le_of_ble_eq_true rfl⟩) dX1_init_9 (fun rv9 z9 L9 σ7 hp9 => ?_)
  obtain ⟨rfl, rfl, rfl, hf_σ7⟩ := hp9
  obtain ⟨r0, f0⟩ := hf_σ7
  show G K Γ (a + 5, 4, 24, ladd L (a + 1) 4) (σ7) 12 [some (.ref a)] [.ref (a + 1), .ref a]
  refine g_putF (n := 15) hC gp_X1_12 rfl hoX1 ((ladd_old m0 _)) (((f0 _ (by omega)).trans ((va_up_ne _ _ (by omega)).trans (s0)))) dX1_init_12 ?_
  refine G.eqs (show _ = va_up (σ7) a (.inr (1, [.ref (a + 1), .null])) from rfl) ?_
  refine g_aload_n (n := 16) hC rfl dX1_init_15 ?_
  refine g_new (n := 19) hC gn_X1_9 dX1_init_16 ?_ (by exact ⟨Nat.le_of_ble_eq_true rfl, Nat.le_of_ble_eq_true rfl⟩)
  show G K Γ (a + 6, 5, 31, ladd L (a + 1) 5) (va_up (va_up (σ7) a (.inr (1, [.ref (a + 1), .null]))) (a + 5) (.inr (6, [.int 0, .int 0, .int 0, .int 0, .null, .long 0, .null]))) 19 [some (.ref a)] [.ref (a + 5), .ref a]
  refine g_dup (n := 20) hC rfl dX1_init_19 ?_
  refine g_callIN (rt2 := none) hC gi_X1_11 (X_newRd K (by exact ladd_new (i := 4) 5 (by decide)) (va_up_self _ _ _)) (by decide) (by decide) rfl (by rfl) (by exact Nat.le_of_ble_eq_true rfl) (by exact ⟨Nat.le_of_ble_eq_true rfl, Nat.le_of_ble_eq_true rfl⟩) dX1_init_20 (fun rv9 z9 L9 σ8 hp9 => ?_)
  obtain ⟨rfl, rfl, rfl, hf_σ8⟩ := hp9
  obtain ⟨r1, f1⟩ := hf_σ8
  show G K Γ (a + 9, 8, 48, ladd L (a + 1) 8) (σ8) 23 [some (.ref a)] [.ref (a + 5), .ref a]
  refine g_putF (n := 26) hC gp_X1_18 rfl hoX1 ((ladd_old m0 _)) (((f1 _ (by omega)).trans ((va_up_ne _ _ (by omega)).trans (va_up_self _ _ _)))) dX1_init_23 ?_
  refine G.eqs (show _ = va_up (σ8) a (.inr (1, [.ref (a + 1), .ref (a + 5)])) from rfl) ?_
  exact g_vret hC dX1_init_26 (⟨rfl, rfl, rfl, va_up_self _ _ _, rdD_eq (fun b9 h1 h2 => by rw [va_up_ne _ _ (by omega), f1 b9 (by omega), va_up_ne _ _ (by omega), va_up_ne _ _ (by omega)]) (rdD_mono (fun b9 h9 => by exact List.mem_append_left _ (List.mem_append_left _ (List.mem_append_left _ (List.mem_append_left _ h9)))) r0), rdD_eq (fun b9 h1 h2 => by rw [va_up_ne _ _ (by omega)]) r1, fun b9 hb9 => by rw [va_up_ne _ _ (by omega), f1 b9 (by omega), va_up_ne _ _ (by omega), va_up_ne _ _ (by omega), f0 b9 (by omega), va_up_ne _ _ (by omega)]⟩)
