theorem ct_z (p : Nat → Bool) (a : Nat) : ∀ b, (∀ i, a ≤ i → p i = false) → ct p (a + b) = ct p a
  | 0, _ => rfl
  | b + 1, h => by
    rw [← Nat.add_assoc, ct, ct_z p a b h, h _ (by omega)]
    rfl
theorem ct_64 {x : Int64} {n : Nat} (hn : n ≤ 64) (h : ∀ i, tb x i = true → i < n) : ct (tb x) 64 = ct (tb x) n := by
  have e := ct_z (tb x) n (64 - n) (fun i hi => by
    cases q : tb x i
    · rfl
    · exact absurd (h i q) (by omega))
  rw [show n + (64 - n) = 64 by omega] at e
  exact e
theorem ct_ps {n k : Nat} {f : Nat → Int32} (hn : n ≤ 49) (hk : k ≤ 5) : ct (tb (psS n f k)) 64 = mny f n (nI k) := by
  rw [ct_64 (n := n) (by omega) (fun i hi => psS_lt (by omega) hi)]
  exact ct_cong (fun i hi => psS_tb hk (by omega) hi)

set_option maxRecDepth 20000 in
theorem X_number (K : GK) {σ : GS} {L : List Nat} {z : Nat} {a n : Nat} {f : Nat → Int32} (haL : a ∈ L) (haL1 : a + 1 ∈ L) (hsa : σ a = psO a f) (hss : σ (a + 1) = lA K 6 (psS n f)) (hn : n ≤ 49) {k : Nat} (hk : k ≤ 5) : gT K yX4_number cX4_number 2 (some .int) 1 [.ref a, .int (nI k)] z L (σ) (some (.int (nI (mny f n (nI k))))) (σ) := by
  refine g_intro [some (.ref a), some (.int (nI k))] (fun Γ hC => ?_) (by simp [g_en, lv_args, Value.category])
  refine g_aload_n (n := 1) hC rfl dX4_number_0 ?_
  refine g_iload_n (n := 2) hC rfl dX4_number_1 ?_
  refine g_cV (n := 5) hC gv_X4_28 (haL) (hsa) (X_in K haL haL1 hsa hss hn hk) dX4_number_2 ?_
  refine g_cS (n := 8) hC gs_X4_32 (X_bitCount K) dX4_number_5 ?_
  exact g_iret hC dX4_number_8 (⟨rI (congrArg nI (ct_ps hn hk)), rfl, rfl, rfl⟩)
