theorem ct_z (p : Nat → Bool) (a : Nat) : ∀ b, (∀ i, a ≤ i → p i = false) → ct p (a + b) = ct p a
  | 0, _ => rfl
  | b + 1, h => by
    rw [← Nat.add_assoc, ct, ct_z p a b h, h _ (by omega)]
    rfl
theorem ct_64 {x : Int64} {n : Nat} (hn : n ≤ 64) (h : ∀ i, tb x i = true → i < n) : ct (tb x) 64 = ct (tb x) n := by
  have e := ct_z (tb x) n (64 - n) (fun i hi => by
    cases q : tb x i
    · rfl
    · exact absurd (h i q) (by omega))
  rw [show n + (64 - n) = 64 by omega] at e
  exact e
theorem ct_ps {n k : Nat} {f : Nat → Int32} (hn : n ≤ 49) (hk : k ≤ 5) : ct (tb (psS n f k)) 64 = mny f n (nI k) := by
  rw [ct_64 (n := n) (by omega) (fun i hi => psS_lt (by omega) hi)]
  exact ct_cong (fun i hi => psS_tb hk (by omega) hi)

set_option maxRecDepth 20000 in
theorem X_number (K : GK) {σ : GS} {L : List Nat} {z : Nat} {a n : Nat} {f : Nat → Int32} (haL : a ∈ L) (haL1 : a + 1 ∈ L) (hsa : σ a = psO a f) (hss : σ (a + 1) = lA K 6 (psS n f)) (hn : n ≤ 49) {k : Nat} (hk : k ≤ 5) : gT K yX4_number cX4_number 2 (some .int) 1 [.ref a, .int (nI k)] z L (σ) (some (.int (nI (mny f n (nI k))))) (σ) := by
  refine g_intro [some (.ref a), some (.int (nI k))] (fun Γ hC => ?_) (by simp [g_en, lv_args, Value.category])
  refine g_aload_n (n := 1) hC rfl dX4_number_0 ?_
  refine g_iload_n (n := 2) hC rfl dX4_number_1 ?_
  refine g_cV (n := 5) hC gv_X4_28 (haL) (hsa) (X_in K haL haL1 hsa hss hn hk) dX4_number_2 ?_
  refine g_cS (n := 8) hC gs_X4_32 (X_bitCount K) dX4_number_5 ?_
  exact g_iret hC dX4_number_8 (⟨rI (congrArg nI (ct_ps hn hk)), rfl, rfl, rfl⟩)

set_option maxRecDepth 20000 in
theorem X_points (K : GK) {σ : GS} {L : List Nat} {z : Nat} {a n : Nat} {f : Nat → Int32} (haL : a ∈ L) (haL1 : a + 1 ∈ L) (hsa : σ a = psO a f) (hss : σ (a + 1) = lA K 6 (psS n f)) (hn : n ≤ 49) {p : Nat} (hp : p ≤ 1) : gT K yX4_points cX4_points 2 (some .int) 2 [.ref a, .int (nI p)] z L (σ) (some (.int (nI (mny f n (nI (3 + p))) + nI 2 * f (147 + p)))) (σ) := by
  refine g_intro [some (.ref a), some (.int (nI p))] (fun Γ hC => ?_) (by simp [g_en, lv_args, Value.category])
  refine g_aload_n (n := 1) hC rfl dX4_points_0 ?_
  refine g_iconst (n := 2) (v := (nI 3)) hC (by decide) dX4_points_1 ?_
  refine g_iload_n (n := 3) hC rfl dX4_points_2 ?_
  refine g_iaddN (n := 4) hC dX4_points_3 ?_
  refine g_cV (n := 7) hC gv_X4_38 (haL) (hsa) (X_number K haL haL1 hsa hss hn (k := 3 + p) (by omega)) dX4_points_4 ?_
  refine g_iconst (n := 8) (v := (nI 2)) hC (by decide) dX4_points_7 ?_
  refine g_aload_n (n := 9) hC rfl dX4_points_8 ?_
  refine g_iload_n (n := 10) hC rfl dX4_points_9 ?_
  refine g_cV (n := 13) hC gv_X4_42 (haL) (hsa) (X_captured K haL haL1 hsa hss hn hp) dX4_points_10 ?_
  refine g_imul (n := 14) hC dX4_points_13 ?_
  refine g_iadd (n := 15) hC dX4_points_14 ?_
  exact g_iret hC dX4_points_15 (⟨by first | rfl | (simp [*]; done), rfl, rfl, rfl⟩)

set_option maxRecDepth 20000 in
theorem X_leadP (K : GK) {σ : GS} {L : List Nat} {z : Nat} {a n : Nat} {f : Nat → Int32} (haL : a ∈ L) (haL1 : a + 1 ∈ L) (hsa : σ a = psO a f) (hss : σ (a + 1) = lA K 6 (psS n f)) (hn : n ≤ 49) : gT K yX4_lead cX4_lead 1 (some .int) 1 [.ref a] z L (σ) (some (.int (nI (mny f n (nI 3)) - nI (mny f n (nI 4)) + nI 2 * (f 147 - f 148)))) (σ) := by
  refine g_intro [some (.ref a)] (fun Γ hC => ?_) (by simp [g_en, lv_args, Value.category])
  refine g_aload_n (n := 1) hC rfl dX4_lead_0 ?_
  refine g_getf (n := 4) (v := .ref (a + 1)) hC gf_X4_9 (haL) (hsa) rfl dX4_lead_1 ?_
  refine g_iconst (n := 5) (v := (nI 3)) hC (by decide) dX4_lead_4 ?_
  refine g_lald (n := 6) (j := 3) hC (haL1) (hss) (rfl) (by omega) (by omega) dX4_lead_5 ?_
  refine g_cS (n := 9) hC gs_X4_32 (X_bitCount K) dX4_lead_6 ?_
  refine g_aload_n (n := 10) hC rfl dX4_lead_9 ?_
  refine g_getf (n := 13) (v := .ref (a + 1)) hC gf_X4_9 (haL) (hsa) rfl dX4_lead_10 ?_
  refine g_iconst (n := 14) (v := (nI 4)) hC (by decide) dX4_lead_13 ?_
  refine g_lald (n := 15) (j := 4) hC (haL1) (hss) (rfl) (by omega) (by omega) dX4_lead_14 ?_
  refine g_cS (n := 18) hC gs_X4_32 (X_bitCount K) dX4_lead_15 ?_
  refine g_isub (n := 19) hC dX4_lead_18 ?_
  refine g_iconst (n := 20) (v := (nI 2)) hC (by decide) dX4_lead_19 ?_
  refine g_aload_n (n := 21) hC rfl dX4_lead_20 ?_
  refine g_getf (n := 24) (v := .int (f 147)) hC gf_X4_15 (haL) (hsa) rfl dX4_lead_21 ?_
  refine g_aload_n (n := 25) hC rfl dX4_lead_24 ?_
  refine g_getf (n := 28) (v := .int (f 148)) hC gf_X4_19 (haL) (hsa) rfl dX4_lead_25 ?_
  refine g_isub (n := 29) hC dX4_lead_28 ?_
  refine g_imul (n := 30) hC dX4_lead_29 ?_
  refine g_iadd (n := 31) hC dX4_lead_30 ?_
  exact g_iret hC dX4_lead_31 (⟨rI (by rw [ct_ps hn (by omega), ct_ps hn (by omega)]), rfl, rfl, rfl⟩)
