/-! ===== the class is made ===== -/
def xO (a : Nat) (hk : Int32) : va_E := .inr (7, [.ref (a + 1), .ref (a + 246), .int hk, .ref (a + 491), .ref (a + 494), .ref (a + 497)])
theorem ladd_sub {L : List Nat} {z k m b : Nat} (hkm : k ≤ m) (h : b ∈ ladd L z k) : b ∈ ladd L z m := ladd_mono h hkm

set_option maxRecDepth 20000 in
set_option maxHeartbeats 4000000 in
theorem X_new (K : GK) {σ : GS} {L : List Nat} {a : Nat} (m0 : a ∈ L) (s0 : σ a = .inr (7, [.null, .null, .int 0, .null, .null, .null])) : gM K yX7_init cX7_init 1 none 4 505 3271 [.ref a] (a + 1) L σ (fun r z1 L1 σ2 => r = none ∧ z1 = a + 506 ∧ L1 = ladd L (a + 1) 505 ∧ (σ2 a = xO a 0 ∧ gmI K L1 σ2 (a + 1) (a + 2) 0 0 0 0 newD ∧ gmI K L1 σ2 (a + 246) (a + 247) 0 0 0 0 newD ∧ (σ2 (a + 2) = bdA 5 5 ∧ σ2 (a + 247) = bdA 5 5) ∧ (σ2 (a + 491) = rfsO (a + 491) 0 ∧ σ2 (a + 492) = iA K 4 (fun _ => 0) ∧ σ2 (a + 493) = iA K 4 (fun _ => 0)) ∧ (σ2 (a + 494) = inpO (a + 494) 0 0 ∧ σ2 (a + 495) = cA K 80 (fun _ => 0) ∧ σ2 (a + 496) = iA K 80 (fun _ => 0)) ∧ (σ2 (a + 497) = .inr (1, [.ref (a + 498), .ref (a + 502)]) ∧ rdD K L1 σ2 (a + 498) d0R ∧ rdD K L1 σ2 (a + 502) d0R) ∧ ∀ b, b < a ∨ a + 505 < b → σ2 b = σ b)) := by
  refine g_intro [some (.ref a)] (fun Γ hC => ?_) (by simp [g_en, lv_args, Value.category])
  show G K Γ (a + 1, 0, 0, ladd L (a + 1) 0) (σ) 0 [some (.ref a)] []
  refine g_aload_n (n := 1) hC rfl dX7_init_0 ?_
  refine g_objI (n := 4) hC (by exact gmem (i := 71) (by decide +kernel) (by decide +kernel)) dX7_init_1 ?_
  refine g_aload_n (n := 5) hC rfl dX7_init_4 ?_
  refine g_new (n := 8) hC gn_X7_7 dX7_init_5 ?_ (by exact ⟨Nat.le_of_ble_eq_true rfl, Nat.le_of_ble_eq_true rfl⟩)
  show G K Γ (a + 2, 1, 7, ladd L (a + 1) 1) (va_up (σ) (a + 1) (.inr (2, [.null, .int 0, .int 0, .null, .null, .int 0, .int 0]))) 8 [some (.ref a)] [.ref (a + 1), .ref a]
  refine g_dup (n := 9) hC rfl dX7_init_8 ?_
  refine g_callI (rt2 := none) hC gi_X7_9 (X_newGame K (by exact ladd_new (i := 0) _ (by decide)) (va_up_self _ _ _)) (by decide) (by decide) rfl (by rfl) (by exact Nat.le_of_ble_eq_true rfl) (by exact ⟨Nat.le_of_ble_eq_true rfl, Nat.le_of_ble_eq_true rfl⟩) dX7_init_9 (fun rv9 z9 L9 σg hp9 => ?_)
  obtain ⟨hr9_σg, hz9_σg, hL9_σg, hf_σg⟩ := hp9
  have hla_σg : ladd (ladd L (a + 1) 1) (a + 1 + 1) 244 = ladd L (a + 1) 245 := ladd_ladd (L := L) (z := a + 1) (k := 1) 244
  rw [hL9_σg, hla_σg] at hf_σg
  obtain ⟨gA, bA, fr_σg⟩ := hf_σg
  rw [hr9_σg, hz9_σg, hL9_σg, hla_σg]
  have o_σg : σg a = _ := (fr_σg _ (by omega)).trans ((va_up_ne _ _ (by omega)).trans (s0))
  show G K Γ (a + 246, 245, 1523, ladd L (a + 1) 245) (σg) 12 [some (.ref a)] [.ref (a + 1), .ref a]
  refine g_putF (n := 15) hC gp_X7_10 rfl hoX7 ((ladd_old m0 _)) (o_σg) dX7_init_12 ?_
  refine G.eqs (show _ = va_up (σg) a (.inr (7, [.ref (a + 1), .null, .int 0, .null, .null, .null])) from rfl) ?_
  refine g_aload_n (n := 16) hC rfl dX7_init_15 ?_
  refine g_new (n := 19) hC gn_X7_7 dX7_init_16 ?_ (by exact ⟨Nat.le_of_ble_eq_true rfl, Nat.le_of_ble_eq_true rfl⟩)
  show G K Γ (a + 247, 246, 1530, ladd L (a + 1) 246) (va_up (va_up (σg) a (.inr (7, [.ref (a + 1), .null, .int 0, .null, .null, .null]))) (a + 246) (.inr (2, [.null, .int 0, .int 0, .null, .null, .int 0, .int 0]))) 19 [some (.ref a)] [.ref (a + 246), .ref a]
  refine g_dup (n := 20) hC rfl dX7_init_19 ?_
  refine g_callI (rt2 := none) hC gi_X7_9 (X_newGame K (by exact ladd_new (i := 245) _ (by decide)) (va_up_self _ _ _)) (by decide) (by decide) rfl (by rfl) (by exact Nat.le_of_ble_eq_true rfl) (by exact ⟨Nat.le_of_ble_eq_true rfl, Nat.le_of_ble_eq_true rfl⟩) dX7_init_20 (fun rv9 z9 L9 σh hp9 => ?_)
  obtain ⟨hr9_σh, hz9_σh, hL9_σh, hf_σh⟩ := hp9
  have hla_σh : ladd (ladd L (a + 1) 246) (a + 246 + 1) 244 = ladd L (a + 1) 490 := ladd_ladd (L := L) (z := a + 1) (k := 246) 244
  rw [hL9_σh, hla_σh] at hf_σh
  obtain ⟨gB, bB, fr_σh⟩ := hf_σh
  rw [hr9_σh, hz9_σh, hL9_σh, hla_σh]
  have o_σh : σh a = _ := (fr_σh _ (by omega)).trans ((va_up_ne _ _ (by omega)).trans (va_up_self _ _ _))
  show G K Γ (a + 491, 490, 3046, ladd L (a + 1) 490) (σh) 23 [some (.ref a)] [.ref (a + 246), .ref a]
  refine g_putF (n := 26) hC gp_X7_16 rfl hoX7 ((ladd_old m0 _)) (o_σh) dX7_init_23 ?_
  refine G.eqs (show _ = va_up (σh) a (.inr (7, [.ref (a + 1), .ref (a + 246), .int 0, .null, .null, .null])) from rfl) ?_
  refine g_aload_n (n := 27) hC rfl dX7_init_26 ?_
  refine g_iconst (n := 28) (v := (nI 0)) hC (by decide) dX7_init_27 ?_
  refine g_putf (n := 31) hC gp_X7_19 ((ladd_old m0 _)) (va_up_self _ _ _) dX7_init_28 ?_
  refine G.eqs (show _ = va_up (σh) a (.inr (7, [.ref (a + 1), .ref (a + 246), .int (nI 0), .null, .null, .null])) from bx_uu _ _ _ _) ?_
  refine g_aload_n (n := 32) hC rfl dX7_init_31 ?_
  refine g_new (n := 35) hC gn_X7_23 dX7_init_32 ?_ (by exact ⟨Nat.le_of_ble_eq_true rfl, Nat.le_of_ble_eq_true rfl⟩)
  show G K Γ (a + 492, 491, 3049, ladd L (a + 1) 491) (va_up (va_up (σh) a (.inr (7, [.ref (a + 1), .ref (a + 246), .int (nI 0), .null, .null, .null]))) (a + 491) (.inr (5, [.int 0, .null, .null]))) 35 [some (.ref a)] [.ref (a + 491), .ref a]
  refine g_dup (n := 36) hC rfl dX7_init_35 ?_
  refine g_callIN (rt2 := none) hC gi_X7_25 (X_newRefusal K (by exact ladd_new (i := 490) _ (by decide)) (va_up_self _ _ _)) (by decide) (by decide) rfl (by rfl) (by exact Nat.le_of_ble_eq_true rfl) (by exact ⟨Nat.le_of_ble_eq_true rfl, Nat.le_of_ble_eq_true rfl⟩) dX7_init_36 (fun rv9 z9 L9 σr hp9 => ?_)
  obtain ⟨hr9_σr, hz9_σr, hL9_σr, hf_σr⟩ := hp9
  have hla_σr : ladd (ladd L (a + 1) 491) (a + 491 + 1) 2 = ladd L (a + 1) 493 := ladd_ladd (L := L) (z := a + 1) (k := 491) 2
  obtain ⟨r0, r1, r2, fr_σr⟩ := hf_σr
  rw [hr9_σr, hz9_σr, hL9_σr, hla_σr]
  have o_σr : σr a = _ := (fr_σr _ (by omega)).trans ((va_up_ne _ _ (by omega)).trans (va_up_self _ _ _))
  show G K Γ (a + 494, 493, 3057, ladd L (a + 1) 493) (σr) 39 [some (.ref a)] [.ref (a + 491), .ref a]
  refine g_putF (n := 42) hC gp_X7_26 rfl hoX7 ((ladd_old m0 _)) (o_σr) dX7_init_39 ?_
  refine G.eqs (show _ = va_up (σr) a (.inr (7, [.ref (a + 1), .ref (a + 246), .int (nI 0), .ref (a + 491), .null, .null])) from rfl) ?_
  refine g_aload_n (n := 43) hC rfl dX7_init_42 ?_
  refine g_new (n := 46) hC gn_X7_30 dX7_init_43 ?_ (by exact ⟨Nat.le_of_ble_eq_true rfl, Nat.le_of_ble_eq_true rfl⟩)
  show G K Γ (a + 495, 494, 3061, ladd L (a + 1) 494) (va_up (va_up (σr) a (.inr (7, [.ref (a + 1), .ref (a + 246), .int (nI 0), .ref (a + 491), .null, .null]))) (a + 494) (.inr (3, [.int 0, .int 0, .null, .null]))) 46 [some (.ref a)] [.ref (a + 494), .ref a]
  refine g_dup (n := 47) hC rfl dX7_init_46 ?_
  refine g_callIN (rt2 := none) hC gi_X7_32 (X_newInput K (by exact ladd_new (i := 493) _ (by decide)) (va_up_self _ _ _)) (by decide) (by decide) rfl (by rfl) (by exact Nat.le_of_ble_eq_true rfl) (by exact ⟨Nat.le_of_ble_eq_true rfl, Nat.le_of_ble_eq_true rfl⟩) dX7_init_47 (fun rv9 z9 L9 σi hp9 => ?_)
  obtain ⟨hr9_σi, hz9_σi, hL9_σi, hf_σi⟩ := hp9
  have hla_σi : ladd (ladd L (a + 1) 494) (a + 494 + 1) 2 = ladd L (a + 1) 496 := ladd_ladd (L := L) (z := a + 1) (k := 494) 2
  obtain ⟨i0, i1, i2, fr_σi⟩ := hf_σi
  rw [hr9_σi, hz9_σi, hL9_σi, hla_σi]
  have o_σi : σi a = _ := (fr_σi _ (by omega)).trans ((va_up_ne _ _ (by omega)).trans (va_up_self _ _ _))
  show G K Γ (a + 497, 496, 3221, ladd L (a + 1) 496) (σi) 50 [some (.ref a)] [.ref (a + 494), .ref a]
  refine g_putF (n := 53) hC gp_X7_33 rfl hoX7 ((ladd_old m0 _)) (o_σi) dX7_init_50 ?_
  refine G.eqs (show _ = va_up (σi) a (.inr (7, [.ref (a + 1), .ref (a + 246), .int (nI 0), .ref (a + 491), .ref (a + 494), .null])) from rfl) ?_
  refine g_aload_n (n := 54) hC rfl dX7_init_53 ?_
  refine g_new (n := 57) hC gn_X7_37 dX7_init_54 ?_ (by exact ⟨Nat.le_of_ble_eq_true rfl, Nat.le_of_ble_eq_true rfl⟩)
  show G K Γ (a + 498, 497, 3223, ladd L (a + 1) 497) (va_up (va_up (σi) a (.inr (7, [.ref (a + 1), .ref (a + 246), .int (nI 0), .ref (a + 491), .ref (a + 494), .null]))) (a + 497) (.inr (1, [.null, .null]))) 57 [some (.ref a)] [.ref (a + 497), .ref a]
  refine g_dup (n := 58) hC rfl dX7_init_57 ?_
  refine g_callIN (rt2 := none) hC gi_X7_39 (X_newForesight K (by exact ladd_new (i := 496) _ (by decide)) (va_up_self _ _ _)) (by decide) (by decide) rfl (by rfl) (by exact Nat.le_of_ble_eq_true rfl) (by exact ⟨Nat.le_of_ble_eq_true rfl, Nat.le_of_ble_eq_true rfl⟩) dX7_init_58 (fun rv9 z9 L9 σf hp9 => ?_)
  obtain ⟨hr9_σf, hz9_σf, hL9_σf, hf_σf⟩ := hp9
  have hla_σf : ladd (ladd L (a + 1) 497) (a + 497 + 1) 8 = ladd L (a + 1) 505 := ladd_ladd (L := L) (z := a + 1) (k := 497) 8
  rw [hL9_σf, hla_σf] at hf_σf
  obtain ⟨f0, f1, f2, fr_σf⟩ := hf_σf
  rw [hr9_σf, hz9_σf, hL9_σf, hla_σf]
  have o_σf : σf a = _ := (fr_σf _ (by omega)).trans ((va_up_ne _ _ (by omega)).trans (va_up_self _ _ _))
  show G K Γ (a + 506, 505, 3271, ladd L (a + 1) 505) (σf) 61 [some (.ref a)] [.ref (a + 497), .ref a]
  refine g_putF (n := 64) hC gp_X7_40 rfl hoX7 ((ladd_old m0 _)) (o_σf) dX7_init_61 ?_
  refine G.eqs (show _ = va_up (σf) a (.inr (7, [.ref (a + 1), .ref (a + 246), .int (nI 0), .ref (a + 491), .ref (a + 494), .ref (a + 497)])) from rfl) ?_
  exact g_vret hC dX7_init_64 (⟨rfl, rfl, rfl, by rw [va_up_self, nI_0]; rfl, gm_eq (fun q h1 h2 h3 => by rw [va_up_ne _ _ (by omega), fr_σf _ (by omega), va_up_ne _ _ (by omega), va_up_ne _ _ (by omega), fr_σi _ (by omega), va_up_ne _ _ (by omega), va_up_ne _ _ (by omega), fr_σr _ (by omega), va_up_ne _ _ (by omega), va_up_ne _ _ (by omega), fr_σh _ (by omega), va_up_ne _ _ (by omega), va_up_ne _ _ (by omega)]) (gm_mono (fun q hq => ladd_mono hq (by decide)) gA), gm_eq (fun q h1 h2 h3 => by rw [va_up_ne _ _ (by omega), fr_σf _ (by omega), va_up_ne _ _ (by omega), va_up_ne _ _ (by omega), fr_σi _ (by omega), va_up_ne _ _ (by omega), va_up_ne _ _ (by omega), fr_σr _ (by omega), va_up_ne _ _ (by omega), va_up_ne _ _ (by omega)]) (gm_mono (fun q hq => ladd_mono hq (by decide)) gB), ⟨by rw [va_up_ne _ _ (by omega), fr_σf _ (by omega), va_up_ne _ _ (by omega), va_up_ne _ _ (by omega), fr_σi _ (by omega), va_up_ne _ _ (by omega), va_up_ne _ _ (by omega), fr_σr _ (by omega), va_up_ne _ _ (by omega), va_up_ne _ _ (by omega), fr_σh _ (by omega), va_up_ne _ _ (by omega), va_up_ne _ _ (by omega)]; exact bA, by rw [va_up_ne _ _ (by omega), fr_σf _ (by omega), va_up_ne _ _ (by omega), va_up_ne _ _ (by omega), fr_σi _ (by omega), va_up_ne _ _ (by omega), va_up_ne _ _ (by omega), fr_σr _ (by omega), va_up_ne _ _ (by omega), va_up_ne _ _ (by omega)]; exact bB⟩, ⟨by rw [va_up_ne _ _ (by omega), fr_σf _ (by omega), va_up_ne _ _ (by omega), va_up_ne _ _ (by omega), fr_σi _ (by omega), va_up_ne _ _ (by omega), va_up_ne _ _ (by omega), r0, rfsO, nI_0], by rw [va_up_ne _ _ (by omega), fr_σf _ (by omega), va_up_ne _ _ (by omega), va_up_ne _ _ (by omega), fr_σi _ (by omega), va_up_ne _ _ (by omega), va_up_ne _ _ (by omega)]; exact r1, by rw [va_up_ne _ _ (by omega), fr_σf _ (by omega), va_up_ne _ _ (by omega), va_up_ne _ _ (by omega), fr_σi _ (by omega), va_up_ne _ _ (by omega), va_up_ne _ _ (by omega)]; exact r2⟩, ⟨by rw [va_up_ne _ _ (by omega), fr_σf _ (by omega), va_up_ne _ _ (by omega), va_up_ne _ _ (by omega), i0, inpO, nI_0], by rw [va_up_ne _ _ (by omega), fr_σf _ (by omega), va_up_ne _ _ (by omega), va_up_ne _ _ (by omega)]; exact i1, by rw [va_up_ne _ _ (by omega), fr_σf _ (by omega), va_up_ne _ _ (by omega), va_up_ne _ _ (by omega)]; exact i2⟩, ⟨by rw [va_up_ne _ _ (by omega)]; exact f0, rdD_eq (fun q h1 h2 => by rw [va_up_ne _ _ (by omega)]) f1, rdD_eq (fun q h1 h2 => by rw [va_up_ne _ _ (by omega)]) f2⟩, fun b hb => by rw [va_up_ne _ _ (by omega), fr_σf _ (by omega), va_up_ne _ _ (by omega), va_up_ne _ _ (by omega), fr_σi _ (by omega), va_up_ne _ _ (by omega), va_up_ne _ _ (by omega), fr_σr _ (by omega), va_up_ne _ _ (by omega), va_up_ne _ _ (by omega), fr_σh _ (by omega), va_up_ne _ _ (by omega), va_up_ne _ _ (by omega), fr_σg _ (by omega), va_up_ne _ _ (by omega)]⟩)
