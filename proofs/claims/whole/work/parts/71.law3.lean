set_option maxRecDepth 20000 in
theorem W_cell (K : GK) {σ : GS} {L : List Nat} {z X o : Nat} {fs : List Value} {x : Int32} {y : Int32} {PoF : GP} {PxF : GPX} (hF : gX K yX7_cell cX7_cell 4 (some .int) 7 1 7 [.ref X, .int x, .int y] z L σ PoF PxF) (mX : X ∈ L) (sX : σ X = .inr (7, fs)) (hret : ∀ rv z1 L1 σ1, PoF rv z1 L1 σ1 → ∃ v f, rv = some (.int v) ∧ o ∈ L1 ∧ σ1 o = lA K 1 f) (hE : ∀ E z1 L1 σ1, PxF E z1 L1 σ1 → E = "java/lang/IndexOutOfBoundsException") : gHM K yL_cell cL_cell 5 (some .int) [(0, 10, 13, 23)] 8 1 7 [.ref X, .int x, .int y, .ref o] z L σ (fun r z1 L1 σ2 => (∃ v f σ3, PoF (some (.int v)) z1 L1 σ3 ∧ σ3 o = lA K 1 f ∧ r = some (.int (nI 0)) ∧ σ2 = va_up σ3 o (lA K 1 (va_up f 0 v.toInt64))) ∨ (∃ E j, PxF E z1 L1 σ2 ∧ ((E = "java/lang/IndexOutOfBoundsException" ∧ j = 1)) ∧ r = some (.int (nI j)))) := by
  refine g_introH [some (.ref X), some (.int x), some (.int y), some (.ref o), none] (fun Γ hC hH => ?_) (by simp [g_en, lv_args, Value.category])
  refine g_aload_n (n := 1) hC rfl dL_cell_0 ?_
  refine g_iconst (n := 2) (v := (nI 0)) hC (by decide) dL_cell_1 ?_
  refine g_aload_n (n := 3) hC rfl dL_cell_2 ?_
  refine g_iload_n (n := 4) hC rfl dL_cell_3 ?_
  refine g_iload_n (n := 5) hC rfl dL_cell_4 ?_
  refine g_callF hC hH gv_L_36 hF mX sX (by rfl) (by decide) (by decide) (by rfl) (by rfl) (Nat.le_of_ble_eq_true rfl) (by exact ⟨Nat.le_refl _, Nat.le_refl _⟩) dL_cell_5 (fun rv z1 L1 σ1 hp => ?_) (fun E z1 L1 σ1 hp => ?_)
  ·
    obtain ⟨v, f, rfl, mo, so⟩ := hret _ _ _ _ hp
    refine g_i2l (n := 9) hC rfl dL_cell_8 ?_
    refine g_last (n := 10) (j := 0) (f := f) hC (mo) (so) (rfl) (by omega) (by decide) dL_cell_9 ?_
    refine g_goto (n := 17) hC dL_cell_10 ?_
    refine g_iconst (n := 18) (v := (nI 0)) hC (by decide) dL_cell_17 ?_
    exact g_iret hC dL_cell_18 (Or.inl ⟨v, f, σ1, hp, so, rfl, rfl⟩)
  ·
    obtain rfl := hE _ _ _ _ hp
    · refine ⟨13, gCat_1 (by decide) (by decide) lc_23 ck_IOB, fun q => ?_⟩
      refine g_astore (n := 15) (ll1 := [some (.ref X), some (.int x), some (.int y), some (.ref o), some (.ref q)]) hC dL_cell_13 rfl ?_
      refine g_iconst (n := 16) (v := (nI 1)) hC (by decide) dL_cell_15 ?_
      exact g_iret hC dL_cell_16 (Or.inr ⟨"java/lang/IndexOutOfBoundsException", 1, hp, by decide, rfl⟩)
