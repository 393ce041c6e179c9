set_option maxRecDepth 20000 in
theorem W_start (K : GK) {σ : GS} {L : List Nat} {z X o : Nat} {fs : List Value} {x : Int32} {y : Int32} {k : Int32} {PoF : GP} {PxF : GPX} (hF : gX K yX7_start cX7_start 4 (some .int) 7 1 7 [.ref X, .int x, .int y, .int k] z L σ PoF PxF) (mX : X ∈ L) (sX : σ X = .inr (7, fs)) (hret : ∀ rv z1 L1 σ1, PoF rv z1 L1 σ1 → ∃ v f, rv = some (.int v) ∧ o ∈ L1 ∧ σ1 o = lA K 1 f) (hE : ∀ E z1 L1 σ1, PxF E z1 L1 σ1 → E = "java/lang/IllegalArgumentException") : gHM K yL_start cL_start 6 (some .int) [(0, 12, 15, 13)] 8 1 7 [.ref X, .int x, .int y, .int k, .ref o] z L σ (fun r z1 L1 σ2 => (∃ v f σ3, PoF (some (.int v)) z1 L1 σ3 ∧ σ3 o = lA K 1 f ∧ r = some (.int (nI 0)) ∧ σ2 = va_up σ3 o (lA K 1 (va_up f 0 v.toInt64))) ∨ (∃ E j, PxF E z1 L1 σ2 ∧ ((E = "java/lang/IllegalArgumentException" ∧ j = 1)) ∧ r = some (.int (nI j)))) := by
  refine g_introH [some (.ref X), some (.int x), some (.int y), some (.int k), some (.ref o), none] (fun Γ hC hH => ?_) (by simp [g_en, lv_args, Value.category])
  refine g_aload (n := 2) hC rfl dL_start_0 ?_
  refine g_iconst (n := 3) (v := (nI 0)) hC (by decide) dL_start_2 ?_
  refine g_aload_n (n := 4) hC rfl dL_start_3 ?_
  refine g_iload_n (n := 5) hC rfl dL_start_4 ?_
  refine g_iload_n (n := 6) hC rfl dL_start_5 ?_
  refine g_iload_n (n := 7) hC rfl dL_start_6 ?_
  refine g_callF hC hH gv_L_7 hF mX sX (by rfl) (by decide) (by decide) (by rfl) (by rfl) (Nat.le_of_ble_eq_true rfl) (by exact ⟨Nat.le_refl _, Nat.le_refl _⟩) dL_start_7 (fun rv z1 L1 σ1 hp => ?_) (fun E z1 L1 σ1 hp => ?_)
  ·
    obtain ⟨v, f, rfl, mo, so⟩ := hret _ _ _ _ hp
    refine g_i2l (n := 11) hC rfl dL_start_10 ?_
    refine g_last (n := 12) (j := 0) (f := f) hC (mo) (so) (rfl) (by omega) (by decide) dL_start_11 ?_
    refine g_goto (n := 19) hC dL_start_12 ?_
    refine g_iconst (n := 20) (v := (nI 0)) hC (by decide) dL_start_19 ?_
    exact g_iret hC dL_start_20 (Or.inl ⟨v, f, σ1, hp, so, rfl, rfl⟩)
  ·
    obtain rfl := hE _ _ _ _ hp
    · refine ⟨15, gCat_1 (by decide) (by decide) lc_13 ck_IAE, fun q => ?_⟩
      refine g_astore (n := 17) (ll1 := [some (.ref X), some (.int x), some (.int y), some (.int k), some (.ref o), some (.ref q)]) hC dL_start_15 rfl ?_
      refine g_iconst (n := 18) (v := (nI 1)) hC (by decide) dL_start_17 ?_
      exact g_iret hC dL_start_18 (Or.inr ⟨"java/lang/IllegalArgumentException", 1, hp, by decide, rfl⟩)

set_option maxRecDepth 20000 in
theorem W_setRule (K : GK) {σ : GS} {L : List Nat} {z X o : Nat} {fs : List Value} {x : Int32} {PoF : GP} {PxF : GPX} (hF : gX K yX7_setRule cX7_setRule 3 (some .int) 7 1 7 [.ref X, .int x] z L σ PoF PxF) (mX : X ∈ L) (sX : σ X = .inr (7, fs)) (hret : ∀ rv z1 L1 σ1, PoF rv z1 L1 σ1 → ∃ v f, rv = some (.int v) ∧ o ∈ L1 ∧ σ1 o = lA K 1 f) (hE : ∀ E z1 L1 σ1, PxF E z1 L1 σ1 → E = "java/lang/IllegalArgumentException") : gHM K yL_setRule cL_setRule 4 (some .int) [(0, 9, 12, 13)] 8 1 7 [.ref X, .int x, .ref o] z L σ (fun r z1 L1 σ2 => (∃ v f σ3, PoF (some (.int v)) z1 L1 σ3 ∧ σ3 o = lA K 1 f ∧ r = some (.int (nI 0)) ∧ σ2 = va_up σ3 o (lA K 1 (va_up f 0 v.toInt64))) ∨ (∃ E j, PxF E z1 L1 σ2 ∧ ((E = "java/lang/IllegalArgumentException" ∧ j = 1)) ∧ r = some (.int (nI j)))) := by
  refine g_introH [some (.ref X), some (.int x), some (.ref o), none] (fun Γ hC hH => ?_) (by simp [g_en, lv_args, Value.category])
  refine g_aload_n (n := 1) hC rfl dL_setRule_0 ?_
  refine g_iconst (n := 2) (v := (nI 0)) hC (by decide) dL_setRule_1 ?_
  refine g_aload_n (n := 3) hC rfl dL_setRule_2 ?_
  refine g_iload_n (n := 4) hC rfl dL_setRule_3 ?_
  refine g_callF hC hH gv_L_15 hF mX sX (by rfl) (by decide) (by decide) (by rfl) (by rfl) (Nat.le_of_ble_eq_true rfl) (by exact ⟨Nat.le_refl _, Nat.le_refl _⟩) dL_setRule_4 (fun rv z1 L1 σ1 hp => ?_) (fun E z1 L1 σ1 hp => ?_)
  ·
    obtain ⟨v, f, rfl, mo, so⟩ := hret _ _ _ _ hp
    refine g_i2l (n := 8) hC rfl dL_setRule_7 ?_
    refine g_last (n := 9) (j := 0) (f := f) hC (mo) (so) (rfl) (by omega) (by decide) dL_setRule_8 ?_
    refine g_goto (n := 15) hC dL_setRule_9 ?_
    refine g_iconst (n := 16) (v := (nI 0)) hC (by decide) dL_setRule_15 ?_
    exact g_iret hC dL_setRule_16 (Or.inl ⟨v, f, σ1, hp, so, rfl, rfl⟩)
  ·
    obtain rfl := hE _ _ _ _ hp
    · refine ⟨12, gCat_1 (by decide) (by decide) lc_13 ck_IAE, fun q => ?_⟩
      refine g_astore_n (n := 13) (ll1 := [some (.ref X), some (.int x), some (.ref o), some (.ref q)]) hC dL_setRule_12 rfl ?_
      refine g_iconst (n := 14) (v := (nI 1)) hC (by decide) dL_setRule_13 ?_
      exact g_iret hC dL_setRule_14 (Or.inr ⟨"java/lang/IllegalArgumentException", 1, hp, by decide, rfl⟩)

set_option maxRecDepth 20000 in
theorem W_setBonus (K : GK) {σ : GS} {L : List Nat} {z X o : Nat} {fs : List Value} {x : Int32} {y : Int32} {PoF : GP} {PxF : GPX} (hF : gX K yX7_setBonus cX7_setBonus 4 (some .int) 7 1 7 [.ref X, .int x, .int y] z L σ PoF PxF) (mX : X ∈ L) (sX : σ X = .inr (7, fs)) (hret : ∀ rv z1 L1 σ1, PoF rv z1 L1 σ1 → ∃ v f, rv = some (.int v) ∧ o ∈ L1 ∧ σ1 o = lA K 1 f) (hE : ∀ E z1 L1 σ1, PxF E z1 L1 σ1 → E = "java/lang/IndexOutOfBoundsException" ∨ E = "java/lang/IllegalArgumentException") : gHM K yL_setBonus cL_setBonus 5 (some .int) [(0, 10, 13, 23), (0, 10, 17, 13)] 8 1 7 [.ref X, .int x, .int y, .ref o] z L σ (fun r z1 L1 σ2 => (∃ v f σ3, PoF (some (.int v)) z1 L1 σ3 ∧ σ3 o = lA K 1 f ∧ r = some (.int (nI 0)) ∧ σ2 = va_up σ3 o (lA K 1 (va_up f 0 v.toInt64))) ∨ (∃ E j, PxF E z1 L1 σ2 ∧ ((E = "java/lang/IndexOutOfBoundsException" ∧ j = 1) ∨ (E = "java/lang/IllegalArgumentException" ∧ j = 2)) ∧ r = some (.int (nI j)))) := by
  refine g_introH [some (.ref X), some (.int x), some (.int y), some (.ref o), none] (fun Γ hC hH => ?_) (by simp [g_en, lv_args, Value.category])
  refine g_aload_n (n := 1) hC rfl dL_setBonus_0 ?_
  refine g_iconst (n := 2) (v := (nI 0)) hC (by decide) dL_setBonus_1 ?_
  refine g_aload_n (n := 3) hC rfl dL_setBonus_2 ?_
  refine g_iload_n (n := 4) hC rfl dL_setBonus_3 ?_
  refine g_iload_n (n := 5) hC rfl dL_setBonus_4 ?_
  refine g_callF hC hH gv_L_19 hF mX sX (by rfl) (by decide) (by decide) (by rfl) (by rfl) (Nat.le_of_ble_eq_true rfl) (by exact ⟨Nat.le_refl _, Nat.le_refl _⟩) dL_setBonus_5 (fun rv z1 L1 σ1 hp => ?_) (fun E z1 L1 σ1 hp => ?_)
  ·
    obtain ⟨v, f, rfl, mo, so⟩ := hret _ _ _ _ hp
    refine g_i2l (n := 9) hC rfl dL_setBonus_8 ?_
    refine g_last (n := 10) (j := 0) (f := f) hC (mo) (so) (rfl) (by omega) (by decide) dL_setBonus_9 ?_
    refine g_goto (n := 21) hC dL_setBonus_10 ?_
    refine g_iconst (n := 22) (v := (nI 0)) hC (by decide) dL_setBonus_21 ?_
    exact g_iret hC dL_setBonus_22 (Or.inl ⟨v, f, σ1, hp, so, rfl, rfl⟩)
  ·
    rcases hE _ _ _ _ hp with rfl | rfl
    · refine ⟨13, gCat_1 (by decide) (by decide) lc_23 ck_IOB, fun q => ?_⟩
      refine g_astore (n := 15) (ll1 := [some (.ref X), some (.int x), some (.int y), some (.ref o), some (.ref q)]) hC dL_setBonus_13 rfl ?_
      refine g_iconst (n := 16) (v := (nI 1)) hC (by decide) dL_setBonus_15 ?_
      exact g_iret hC dL_setBonus_16 (Or.inr ⟨"java/lang/IndexOutOfBoundsException", 1, hp, by decide, rfl⟩)
    · refine ⟨17, gCat_s (by decide) lc_23 (List.mem_of_getElem? (i := 0) rfl) (gCat_1 (by decide) (by decide) lc_13 ck_IAE), fun q => ?_⟩
      refine g_astore (n := 19) (ll1 := [some (.ref X), some (.int x), some (.int y), some (.ref o), some (.ref q)]) hC dL_setBonus_17 rfl ?_
      refine g_iconst (n := 20) (v := (nI 2)) hC (by decide) dL_setBonus_19 ?_
      exact g_iret hC dL_setBonus_20 (Or.inr ⟨"java/lang/IllegalArgumentException", 2, hp, by decide, rfl⟩)

set_option maxRecDepth 20000 in
theorem W_play (K : GK) {σ : GS} {L : List Nat} {z X o : Nat} {fs : List Value} {x : Int32} {y : Int32} {PoF : GP} {PxF : GPX} (hF : gX K yX7_play cX7_play 3 (some .int) 8 1 7 [.ref X, .int x, .int y] z L σ PoF PxF) (mX : X ∈ L) (sX : σ X = .inr (7, fs)) (hret : ∀ rv z1 L1 σ1, PoF rv z1 L1 σ1 → ∃ v f, rv = some (.int v) ∧ o ∈ L1 ∧ σ1 o = lA K 1 f) (hE : ∀ E z1 L1 σ1, PxF E z1 L1 σ1 → E = "java/lang/IndexOutOfBoundsException" ∨ E = "java/lang/IllegalStateException" ∨ E = "java/lang/UnsupportedOperationException") : gHM K yL_play cL_play 5 (some .int) [(0, 10, 13, 23), (0, 10, 17, 28), (0, 10, 21, 30)] 9 1 7 [.ref X, .int x, .int y, .ref o] z L σ (fun r z1 L1 σ2 => (∃ v f σ3, PoF (some (.int v)) z1 L1 σ3 ∧ σ3 o = lA K 1 f ∧ r = some (.int (nI 0)) ∧ σ2 = va_up σ3 o (lA K 1 (va_up f 0 v.toInt64))) ∨ (∃ E j, PxF E z1 L1 σ2 ∧ ((E = "java/lang/IndexOutOfBoundsException" ∧ j = 1) ∨ (E = "java/lang/IllegalStateException" ∧ j = 2) ∨ (E = "java/lang/UnsupportedOperationException" ∧ j = 3)) ∧ r = some (.int (nI j)))) := by
  refine g_introH [some (.ref X), some (.int x), some (.int y), some (.ref o), none] (fun Γ hC hH => ?_) (by simp [g_en, lv_args, Value.category])
  refine g_aload_n (n := 1) hC rfl dL_play_0 ?_
  refine g_iconst (n := 2) (v := (nI 0)) hC (by decide) dL_play_1 ?_
  refine g_aload_n (n := 3) hC rfl dL_play_2 ?_
  refine g_iload_n (n := 4) hC rfl dL_play_3 ?_
  refine g_iload_n (n := 5) hC rfl dL_play_4 ?_
  refine g_callF hC hH gv_L_25 hF mX sX (by rfl) (by decide) (by decide) (by rfl) (by rfl) (Nat.le_of_ble_eq_true rfl) (by exact ⟨Nat.le_refl _, Nat.le_refl _⟩) dL_play_5 (fun rv z1 L1 σ1 hp => ?_) (fun E z1 L1 σ1 hp => ?_)
  ·
    obtain ⟨v, f, rfl, mo, so⟩ := hret _ _ _ _ hp
    refine g_i2l (n := 9) hC rfl dL_play_8 ?_
    refine g_last (n := 10) (j := 0) (f := f) hC (mo) (so) (rfl) (by omega) (by decide) dL_play_9 ?_
    refine g_goto (n := 25) hC dL_play_10 ?_
    refine g_iconst (n := 26) (v := (nI 0)) hC (by decide) dL_play_25 ?_
    exact g_iret hC dL_play_26 (Or.inl ⟨v, f, σ1, hp, so, rfl, rfl⟩)
  ·
    rcases hE _ _ _ _ hp with rfl | rfl | rfl
    · refine ⟨13, gCat_1 (by decide) (by decide) lc_23 ck_IOB, fun q => ?_⟩
      refine g_astore (n := 15) (ll1 := [some (.ref X), some (.int x), some (.int y), some (.ref o), some (.ref q)]) hC dL_play_13 rfl ?_
      refine g_iconst (n := 16) (v := (nI 1)) hC (by decide) dL_play_15 ?_
      exact g_iret hC dL_play_16 (Or.inr ⟨"java/lang/IndexOutOfBoundsException", 1, hp, by decide, rfl⟩)
    · refine ⟨17, gCat_s (by decide) lc_23 (List.mem_of_getElem? (i := 1) rfl) (gCat_1 (by decide) (by decide) lc_28 ck_ISE), fun q => ?_⟩
      refine g_astore (n := 19) (ll1 := [some (.ref X), some (.int x), some (.int y), some (.ref o), some (.ref q)]) hC dL_play_17 rfl ?_
      refine g_iconst (n := 20) (v := (nI 2)) hC (by decide) dL_play_19 ?_
      exact g_iret hC dL_play_20 (Or.inr ⟨"java/lang/IllegalStateException", 2, hp, by decide, rfl⟩)
    · refine ⟨21, gCat_s (by decide) lc_23 (List.mem_of_getElem? (i := 2) rfl) (gCat_s (by decide) lc_28 (List.mem_of_getElem? (i := 3) rfl) (gCat_1 (by decide) (by decide) lc_30 ck_UOE)), fun q => ?_⟩
      refine g_astore (n := 23) (ll1 := [some (.ref X), some (.int x), some (.int y), some (.ref o), some (.ref q)]) hC dL_play_21 rfl ?_
      refine g_iconst (n := 24) (v := (nI 3)) hC (by decide) dL_play_23 ?_
      exact g_iret hC dL_play_24 (Or.inr ⟨"java/lang/UnsupportedOperationException", 3, hp, by decide, rfl⟩)

set_option maxRecDepth 20000 in
theorem W_undo (K : GK) {σ : GS} {L : List Nat} {z X o : Nat} {fs : List Value} {PoF : GP} {PxF : GPX} (hF : gX K yX7_undo cX7_undo 1 (some .int) 7 1 7 [.ref X] z L σ PoF PxF) (mX : X ∈ L) (sX : σ X = .inr (7, fs)) (hret : ∀ rv z1 L1 σ1, PoF rv z1 L1 σ1 → ∃ v f, rv = some (.int v) ∧ o ∈ L1 ∧ σ1 o = lA K 1 f) (hE : ∀ E z1 L1 σ1, PxF E z1 L1 σ1 → E = "java/lang/IllegalStateException") : gHM K yL_undo cL_undo 3 (some .int) [(0, 8, 11, 28)] 8 1 7 [.ref X, .ref o] z L σ (fun r z1 L1 σ2 => (∃ v f σ3, PoF (some (.int v)) z1 L1 σ3 ∧ σ3 o = lA K 1 f ∧ r = some (.int (nI 0)) ∧ σ2 = va_up σ3 o (lA K 1 (va_up f 0 v.toInt64))) ∨ (∃ E j, PxF E z1 L1 σ2 ∧ ((E = "java/lang/IllegalStateException" ∧ j = 1)) ∧ r = some (.int (nI j)))) := by
  refine g_introH [some (.ref X), some (.ref o), none] (fun Γ hC hH => ?_) (by simp [g_en, lv_args, Value.category])
  refine g_aload_n (n := 1) hC rfl dL_undo_0 ?_
  refine g_iconst (n := 2) (v := (nI 0)) hC (by decide) dL_undo_1 ?_
  refine g_aload_n (n := 3) hC rfl dL_undo_2 ?_
  refine g_callF hC hH gv_L_32 hF mX sX (by rfl) (by decide) (by decide) (by rfl) (by rfl) (Nat.le_of_ble_eq_true rfl) (by exact ⟨Nat.le_refl _, Nat.le_refl _⟩) dL_undo_3 (fun rv z1 L1 σ1 hp => ?_) (fun E z1 L1 σ1 hp => ?_)
  ·
    obtain ⟨v, f, rfl, mo, so⟩ := hret _ _ _ _ hp
    refine g_i2l (n := 7) hC rfl dL_undo_6 ?_
    refine g_last (n := 8) (j := 0) (f := f) hC (mo) (so) (rfl) (by omega) (by decide) dL_undo_7 ?_
    refine g_goto (n := 14) hC dL_undo_8 ?_
    refine g_iconst (n := 15) (v := (nI 0)) hC (by decide) dL_undo_14 ?_
    exact g_iret hC dL_undo_15 (Or.inl ⟨v, f, σ1, hp, so, rfl, rfl⟩)
  ·
    obtain rfl := hE _ _ _ _ hp
    · refine ⟨11, gCat_1 (by decide) (by decide) lc_28 ck_ISE, fun q => ?_⟩
      refine g_astore_n (n := 12) (ll1 := [some (.ref X), some (.ref o), some (.ref q)]) hC dL_undo_11 rfl ?_
      refine g_iconst (n := 13) (v := (nI 1)) hC (by decide) dL_undo_12 ?_
      exact g_iret hC dL_undo_13 (Or.inr ⟨"java/lang/IllegalStateException", 1, hp, by decide, rfl⟩)

set_option maxRecDepth 20000 in
theorem W_cell (K : GK) {σ : GS} {L : List Nat} {z X o : Nat} {fs : List Value} {x : Int32} {y : Int32} {PoF : GP} {PxF : GPX} (hF : gX K yX7_cell cX7_cell 4 (some .int) 7 1 7 [.ref X, .int x, .int y] z L σ PoF PxF) (mX : X ∈ L) (sX : σ X = .inr (7, fs)) (hret : ∀ rv z1 L1 σ1, PoF rv z1 L1 σ1 → ∃ v f, rv = some (.int v) ∧ o ∈ L1 ∧ σ1 o = lA K 1 f) (hE : ∀ E z1 L1 σ1, PxF E z1 L1 σ1 → E = "java/lang/IndexOutOfBoundsException") : gHM K yL_cell cL_cell 5 (some .int) [(0, 10, 13, 23)] 8 1 7 [.ref X, .int x, .int y, .ref o] z L σ (fun r z1 L1 σ2 => (∃ v f σ3, PoF (some (.int v)) z1 L1 σ3 ∧ σ3 o = lA K 1 f ∧ r = some (.int (nI 0)) ∧ σ2 = va_up σ3 o (lA K 1 (va_up f 0 v.toInt64))) ∨ (∃ E j, PxF E z1 L1 σ2 ∧ ((E = "java/lang/IndexOutOfBoundsException" ∧ j = 1)) ∧ r = some (.int (nI j)))) := by
  refine g_introH [some (.ref X), some (.int x), some (.int y), some (.ref o), none] (fun Γ hC hH => ?_) (by simp [g_en, lv_args, Value.category])
  refine g_aload_n (n := 1) hC rfl dL_cell_0 ?_
  refine g_iconst (n := 2) (v := (nI 0)) hC (by decide) dL_cell_1 ?_
  refine g_aload_n (n := 3) hC rfl dL_cell_2 ?_
  refine g_iload_n (n := 4) hC rfl dL_cell_3 ?_
  refine g_iload_n (n := 5) hC rfl dL_cell_4 ?_
  refine g_callF hC hH gv_L_36 hF mX sX (by rfl) (by decide) (by decide) (by rfl) (by rfl) (Nat.le_of_ble_eq_true rfl) (by exact ⟨Nat.le_refl _, Nat.le_refl _⟩) dL_cell_5 (fun rv z1 L1 σ1 hp => ?_) (fun E z1 L1 σ1 hp => ?_)
  ·
    obtain ⟨v, f, rfl, mo, so⟩ := hret _ _ _ _ hp
    refine g_i2l (n := 9) hC rfl dL_cell_8 ?_
    refine g_last (n := 10) (j := 0) (f := f) hC (mo) (so) (rfl) (by omega) (by decide) dL_cell_9 ?_
    refine g_goto (n := 17) hC dL_cell_10 ?_
    refine g_iconst (n := 18) (v := (nI 0)) hC (by decide) dL_cell_17 ?_
    exact g_iret hC dL_cell_18 (Or.inl ⟨v, f, σ1, hp, so, rfl, rfl⟩)
  ·
    obtain rfl := hE _ _ _ _ hp
    · refine ⟨13, gCat_1 (by decide) (by decide) lc_23 ck_IOB, fun q => ?_⟩
      refine g_astore (n := 15) (ll1 := [some (.ref X), some (.int x), some (.int y), some (.ref o), some (.ref q)]) hC dL_cell_13 rfl ?_
      refine g_iconst (n := 16) (v := (nI 1)) hC (by decide) dL_cell_15 ?_
      exact g_iret hC dL_cell_16 (Or.inr ⟨"java/lang/IndexOutOfBoundsException", 1, hp, by decide, rfl⟩)

set_option maxRecDepth 20000 in
theorem W_since (K : GK) {σ : GS} {L : List Nat} {z X o : Nat} {fs : List Value} {x : Int32} {y : Int32} {PoF : GP} {PxF : GPX} (hF : gX K yX7_since cX7_since 3 (some .int) 7 1 7 [.ref X, .int x, .int y] z L σ PoF PxF) (mX : X ∈ L) (sX : σ X = .inr (7, fs)) (hret : ∀ rv z1 L1 σ1, PoF rv z1 L1 σ1 → ∃ v f, rv = some (.int v) ∧ o ∈ L1 ∧ σ1 o = lA K 1 f) (hE : ∀ E z1 L1 σ1, PxF E z1 L1 σ1 → E = "java/lang/IndexOutOfBoundsException" ∨ E = "java/lang/IllegalArgumentException") : gHM K yL_since cL_since 5 (some .int) [(0, 10, 13, 23), (0, 10, 17, 13)] 8 1 7 [.ref X, .int x, .int y, .ref o] z L σ (fun r z1 L1 σ2 => (∃ v f σ3, PoF (some (.int v)) z1 L1 σ3 ∧ σ3 o = lA K 1 f ∧ r = some (.int (nI 0)) ∧ σ2 = va_up σ3 o (lA K 1 (va_up f 0 v.toInt64))) ∨ (∃ E j, PxF E z1 L1 σ2 ∧ ((E = "java/lang/IndexOutOfBoundsException" ∧ j = 1) ∨ (E = "java/lang/IllegalArgumentException" ∧ j = 2)) ∧ r = some (.int (nI j)))) := by
  refine g_introH [some (.ref X), some (.int x), some (.int y), some (.ref o), none] (fun Γ hC hH => ?_) (by simp [g_en, lv_args, Value.category])
  refine g_aload_n (n := 1) hC rfl dL_since_0 ?_
  refine g_iconst (n := 2) (v := (nI 0)) hC (by decide) dL_since_1 ?_
  refine g_aload_n (n := 3) hC rfl dL_since_2 ?_
  refine g_iload_n (n := 4) hC rfl dL_since_3 ?_
  refine g_iload_n (n := 5) hC rfl dL_since_4 ?_
  refine g_callF hC hH gv_L_39 hF mX sX (by rfl) (by decide) (by decide) (by rfl) (by rfl) (Nat.le_of_ble_eq_true rfl) (by exact ⟨Nat.le_refl _, Nat.le_refl _⟩) dL_since_5 (fun rv z1 L1 σ1 hp => ?_) (fun E z1 L1 σ1 hp => ?_)
  ·
    obtain ⟨v, f, rfl, mo, so⟩ := hret _ _ _ _ hp
    refine g_i2l (n := 9) hC rfl dL_since_8 ?_
    refine g_last (n := 10) (j := 0) (f := f) hC (mo) (so) (rfl) (by omega) (by decide) dL_since_9 ?_
    refine g_goto (n := 21) hC dL_since_10 ?_
    refine g_iconst (n := 22) (v := (nI 0)) hC (by decide) dL_since_21 ?_
    exact g_iret hC dL_since_22 (Or.inl ⟨v, f, σ1, hp, so, rfl, rfl⟩)
  ·
    rcases hE _ _ _ _ hp with rfl | rfl
    · refine ⟨13, gCat_1 (by decide) (by decide) lc_23 ck_IOB, fun q => ?_⟩
      refine g_astore (n := 15) (ll1 := [some (.ref X), some (.int x), some (.int y), some (.ref o), some (.ref q)]) hC dL_since_13 rfl ?_
      refine g_iconst (n := 16) (v := (nI 1)) hC (by decide) dL_since_15 ?_
      exact g_iret hC dL_since_16 (Or.inr ⟨"java/lang/IndexOutOfBoundsException", 1, hp, by decide, rfl⟩)
    · refine ⟨17, gCat_s (by decide) lc_23 (List.mem_of_getElem? (i := 0) rfl) (gCat_1 (by decide) (by decide) lc_13 ck_IAE), fun q => ?_⟩
      refine g_astore (n := 19) (ll1 := [some (.ref X), some (.int x), some (.int y), some (.ref o), some (.ref q)]) hC dL_since_17 rfl ?_
      refine g_iconst (n := 20) (v := (nI 2)) hC (by decide) dL_since_19 ?_
      exact g_iret hC dL_since_20 (Or.inr ⟨"java/lang/IllegalArgumentException", 2, hp, by decide, rfl⟩)

set_option maxRecDepth 20000 in
theorem W_count (K : GK) {σ : GS} {L : List Nat} {z X o : Nat} {fs : List Value} {x : Int32} {PoF : GP} {PxF : GPX} (hF : gX K yX7_count cX7_count 2 (some .int) 7 1 7 [.ref X, .int x] z L σ PoF PxF) (mX : X ∈ L) (sX : σ X = .inr (7, fs)) (hret : ∀ rv z1 L1 σ1, PoF rv z1 L1 σ1 → ∃ v f, rv = some (.int v) ∧ o ∈ L1 ∧ σ1 o = lA K 1 f) (hE : ∀ E z1 L1 σ1, PxF E z1 L1 σ1 → E = "java/lang/IllegalArgumentException") : gHM K yL_count cL_count 4 (some .int) [(0, 9, 12, 13)] 8 1 7 [.ref X, .int x, .ref o] z L σ (fun r z1 L1 σ2 => (∃ v f σ3, PoF (some (.int v)) z1 L1 σ3 ∧ σ3 o = lA K 1 f ∧ r = some (.int (nI 0)) ∧ σ2 = va_up σ3 o (lA K 1 (va_up f 0 v.toInt64))) ∨ (∃ E j, PxF E z1 L1 σ2 ∧ ((E = "java/lang/IllegalArgumentException" ∧ j = 1)) ∧ r = some (.int (nI j)))) := by
  refine g_introH [some (.ref X), some (.int x), some (.ref o), none] (fun Γ hC hH => ?_) (by simp [g_en, lv_args, Value.category])
  refine g_aload_n (n := 1) hC rfl dL_count_0 ?_
  refine g_iconst (n := 2) (v := (nI 0)) hC (by decide) dL_count_1 ?_
  refine g_aload_n (n := 3) hC rfl dL_count_2 ?_
  refine g_iload_n (n := 4) hC rfl dL_count_3 ?_
  refine g_callF hC hH gv_L_42 hF mX sX (by rfl) (by decide) (by decide) (by rfl) (by rfl) (Nat.le_of_ble_eq_true rfl) (by exact ⟨Nat.le_refl _, Nat.le_refl _⟩) dL_count_4 (fun rv z1 L1 σ1 hp => ?_) (fun E z1 L1 σ1 hp => ?_)
  ·
    obtain ⟨v, f, rfl, mo, so⟩ := hret _ _ _ _ hp
    refine g_i2l (n := 8) hC rfl dL_count_7 ?_
    refine g_last (n := 9) (j := 0) (f := f) hC (mo) (so) (rfl) (by omega) (by decide) dL_count_8 ?_
    refine g_goto (n := 15) hC dL_count_9 ?_
    refine g_iconst (n := 16) (v := (nI 0)) hC (by decide) dL_count_15 ?_
    exact g_iret hC dL_count_16 (Or.inl ⟨v, f, σ1, hp, so, rfl, rfl⟩)
  ·
    obtain rfl := hE _ _ _ _ hp
    · refine ⟨12, gCat_1 (by decide) (by decide) lc_13 ck_IAE, fun q => ?_⟩
      refine g_astore_n (n := 13) (ll1 := [some (.ref X), some (.int x), some (.ref o), some (.ref q)]) hC dL_count_12 rfl ?_
      refine g_iconst (n := 14) (v := (nI 1)) hC (by decide) dL_count_13 ?_
      exact g_iret hC dL_count_14 (Or.inr ⟨"java/lang/IllegalArgumentException", 1, hp, by decide, rfl⟩)

set_option maxRecDepth 20000 in
theorem W_player (K : GK) {σ : GS} {L : List Nat} {z X o : Nat} {fs : List Value} {x : Int32} {y : Int32} {PoF : GP} {PxF : GPX} (hF : gX K yX7_player cX7_player 4 (some .int) 8 1 7 [.ref X, .int x, .int y] z L σ PoF PxF) (mX : X ∈ L) (sX : σ X = .inr (7, fs)) (hret : ∀ rv z1 L1 σ1, PoF rv z1 L1 σ1 → ∃ v f, rv = some (.int v) ∧ o ∈ L1 ∧ σ1 o = lA K 1 f) (hE : ∀ E z1 L1 σ1, PxF E z1 L1 σ1 → E = "java/lang/IndexOutOfBoundsException" ∨ E = "java/lang/IllegalArgumentException") : gHM K yL_player cL_player 5 (some .int) [(0, 10, 13, 23), (0, 10, 17, 13)] 9 1 7 [.ref X, .int x, .int y, .ref o] z L σ (fun r z1 L1 σ2 => (∃ v f σ3, PoF (some (.int v)) z1 L1 σ3 ∧ σ3 o = lA K 1 f ∧ r = some (.int (nI 0)) ∧ σ2 = va_up σ3 o (lA K 1 (va_up f 0 v.toInt64))) ∨ (∃ E j, PxF E z1 L1 σ2 ∧ ((E = "java/lang/IndexOutOfBoundsException" ∧ j = 1) ∨ (E = "java/lang/IllegalArgumentException" ∧ j = 2)) ∧ r = some (.int (nI j)))) := by
  refine g_introH [some (.ref X), some (.int x), some (.int y), some (.ref o), none] (fun Γ hC hH => ?_) (by simp [g_en, lv_args, Value.category])
  refine g_aload_n (n := 1) hC rfl dL_player_0 ?_
  refine g_iconst (n := 2) (v := (nI 0)) hC (by decide) dL_player_1 ?_
  refine g_aload_n (n := 3) hC rfl dL_player_2 ?_
  refine g_iload_n (n := 4) hC rfl dL_player_3 ?_
  refine g_iload_n (n := 5) hC rfl dL_player_4 ?_
  refine g_callF hC hH gv_L_45 hF mX sX (by rfl) (by decide) (by decide) (by rfl) (by rfl) (Nat.le_of_ble_eq_true rfl) (by exact ⟨Nat.le_refl _, Nat.le_refl _⟩) dL_player_5 (fun rv z1 L1 σ1 hp => ?_) (fun E z1 L1 σ1 hp => ?_)
  ·
    obtain ⟨v, f, rfl, mo, so⟩ := hret _ _ _ _ hp
    refine g_i2l (n := 9) hC rfl dL_player_8 ?_
    refine g_last (n := 10) (j := 0) (f := f) hC (mo) (so) (rfl) (by omega) (by decide) dL_player_9 ?_
    refine g_goto (n := 21) hC dL_player_10 ?_
    refine g_iconst (n := 22) (v := (nI 0)) hC (by decide) dL_player_21 ?_
    exact g_iret hC dL_player_22 (Or.inl ⟨v, f, σ1, hp, so, rfl, rfl⟩)
  ·
    rcases hE _ _ _ _ hp with rfl | rfl
    · refine ⟨13, gCat_1 (by decide) (by decide) lc_23 ck_IOB, fun q => ?_⟩
      refine g_astore (n := 15) (ll1 := [some (.ref X), some (.int x), some (.int y), some (.ref o), some (.ref q)]) hC dL_player_13 rfl ?_
      refine g_iconst (n := 16) (v := (nI 1)) hC (by decide) dL_player_15 ?_
      exact g_iret hC dL_player_16 (Or.inr ⟨"java/lang/IndexOutOfBoundsException", 1, hp, by decide, rfl⟩)
    · refine ⟨17, gCat_s (by decide) lc_23 (List.mem_of_getElem? (i := 0) rfl) (gCat_1 (by decide) (by decide) lc_13 ck_IAE), fun q => ?_⟩
      refine g_astore (n := 19) (ll1 := [some (.ref X), some (.int x), some (.int y), some (.ref o), some (.ref q)]) hC dL_player_17 rfl ?_
      refine g_iconst (n := 20) (v := (nI 2)) hC (by decide) dL_player_19 ?_
      exact g_iret hC dL_player_20 (Or.inr ⟨"java/lang/IllegalArgumentException", 2, hp, by decide, rfl⟩)

set_option maxRecDepth 20000 in
theorem W_region (K : GK) {σ : GS} {L : List Nat} {z X o : Nat} {fs : List Value} {x : Int32} {y : Int32} {PoF : GP} {PxF : GPX} (hF : gX K yX7_region cX7_region 5 (some .long) 7 1 7 [.ref X, .int x, .int y] z L σ PoF PxF) (mX : X ∈ L) (sX : σ X = .inr (7, fs)) (hret : ∀ rv z1 L1 σ1, PoF rv z1 L1 σ1 → ∃ v f, rv = some (.long v) ∧ o ∈ L1 ∧ σ1 o = lA K 1 f) (hE : ∀ E z1 L1 σ1, PxF E z1 L1 σ1 → E = "java/lang/IndexOutOfBoundsException" ∨ E = "java/util/NoSuchElementException") : gHM K yL_region cL_region 5 (some .int) [(0, 9, 12, 23), (0, 9, 16, 52)] 8 1 7 [.ref X, .int x, .int y, .ref o] z L σ (fun r z1 L1 σ2 => (∃ v f σ3, PoF (some (.long v)) z1 L1 σ3 ∧ σ3 o = lA K 1 f ∧ r = some (.int (nI 0)) ∧ σ2 = va_up σ3 o (lA K 1 (va_up f 0 v))) ∨ (∃ E j, PxF E z1 L1 σ2 ∧ ((E = "java/lang/IndexOutOfBoundsException" ∧ j = 1) ∨ (E = "java/util/NoSuchElementException" ∧ j = 2)) ∧ r = some (.int (nI j)))) := by
  refine g_introH [some (.ref X), some (.int x), some (.int y), some (.ref o), none] (fun Γ hC hH => ?_) (by simp [g_en, lv_args, Value.category])
  refine g_aload_n (n := 1) hC rfl dL_region_0 ?_
  refine g_iconst (n := 2) (v := (nI 0)) hC (by decide) dL_region_1 ?_
  refine g_aload_n (n := 3) hC rfl dL_region_2 ?_
  refine g_iload_n (n := 4) hC rfl dL_region_3 ?_
  refine g_iload_n (n := 5) hC rfl dL_region_4 ?_
  refine g_callF hC hH gv_L_48 hF mX sX (by rfl) (by decide) (by decide) (by rfl) (by rfl) (Nat.le_of_ble_eq_true rfl) (by exact ⟨Nat.le_refl _, Nat.le_refl _⟩) dL_region_5 (fun rv z1 L1 σ1 hp => ?_) (fun E z1 L1 σ1 hp => ?_)
  ·
    obtain ⟨v, f, rfl, mo, so⟩ := hret _ _ _ _ hp
    refine g_last (n := 9) (j := 0) (f := f) hC (mo) (so) (rfl) (by omega) (by decide) dL_region_8 ?_
    refine g_goto (n := 20) hC dL_region_9 ?_
    refine g_iconst (n := 21) (v := (nI 0)) hC (by decide) dL_region_20 ?_
    exact g_iret hC dL_region_21 (Or.inl ⟨v, f, σ1, hp, so, rfl, rfl⟩)
  ·
    rcases hE _ _ _ _ hp with rfl | rfl
    · refine ⟨12, gCat_1 (by decide) (by decide) lc_23 ck_IOB, fun q => ?_⟩
      refine g_astore (n := 14) (ll1 := [some (.ref X), some (.int x), some (.int y), some (.ref o), some (.ref q)]) hC dL_region_12 rfl ?_
      refine g_iconst (n := 15) (v := (nI 1)) hC (by decide) dL_region_14 ?_
      exact g_iret hC dL_region_15 (Or.inr ⟨"java/lang/IndexOutOfBoundsException", 1, hp, by decide, rfl⟩)
    · refine ⟨16, gCat_s (by decide) lc_23 (List.mem_of_getElem? (i := 4) rfl) (gCat_1 (by decide) (by decide) lc_52 ck_NSE), fun q => ?_⟩
      refine g_astore (n := 18) (ll1 := [some (.ref X), some (.int x), some (.int y), some (.ref o), some (.ref q)]) hC dL_region_16 rfl ?_
      refine g_iconst (n := 19) (v := (nI 2)) hC (by decide) dL_region_18 ?_
      exact g_iret hC dL_region_19 (Or.inr ⟨"java/util/NoSuchElementException", 2, hp, by decide, rfl⟩)

set_option maxRecDepth 20000 in
theorem W_cells (K : GK) {σ : GS} {L : List Nat} {z X o : Nat} {fs : List Value} {x : Int32} {PoF : GP} {PxF : GPX} (hF : gX K yX7_cells cX7_cells 2 (some .long) 7 1 7 [.ref X, .int x] z L σ PoF PxF) (mX : X ∈ L) (sX : σ X = .inr (7, fs)) (hret : ∀ rv z1 L1 σ1, PoF rv z1 L1 σ1 → ∃ v f, rv = some (.long v) ∧ o ∈ L1 ∧ σ1 o = lA K 1 f) (hE : ∀ E z1 L1 σ1, PxF E z1 L1 σ1 → E = "java/lang/IllegalArgumentException") : gHM K yL_cells cL_cells 4 (some .int) [(0, 8, 11, 13)] 8 1 7 [.ref X, .int x, .ref o] z L σ (fun r z1 L1 σ2 => (∃ v f σ3, PoF (some (.long v)) z1 L1 σ3 ∧ σ3 o = lA K 1 f ∧ r = some (.int (nI 0)) ∧ σ2 = va_up σ3 o (lA K 1 (va_up f 0 v))) ∨ (∃ E j, PxF E z1 L1 σ2 ∧ ((E = "java/lang/IllegalArgumentException" ∧ j = 1)) ∧ r = some (.int (nI j)))) := by
  refine g_introH [some (.ref X), some (.int x), some (.ref o), none] (fun Γ hC hH => ?_) (by simp [g_en, lv_args, Value.category])
  refine g_aload_n (n := 1) hC rfl dL_cells_0 ?_
  refine g_iconst (n := 2) (v := (nI 0)) hC (by decide) dL_cells_1 ?_
  refine g_aload_n (n := 3) hC rfl dL_cells_2 ?_
  refine g_iload_n (n := 4) hC rfl dL_cells_3 ?_
  refine g_callF hC hH gv_L_54 hF mX sX (by rfl) (by decide) (by decide) (by rfl) (by rfl) (Nat.le_of_ble_eq_true rfl) (by exact ⟨Nat.le_refl _, Nat.le_refl _⟩) dL_cells_4 (fun rv z1 L1 σ1 hp => ?_) (fun E z1 L1 σ1 hp => ?_)
  ·
    obtain ⟨v, f, rfl, mo, so⟩ := hret _ _ _ _ hp
    refine g_last (n := 8) (j := 0) (f := f) hC (mo) (so) (rfl) (by omega) (by decide) dL_cells_7 ?_
    refine g_goto (n := 14) hC dL_cells_8 ?_
    refine g_iconst (n := 15) (v := (nI 0)) hC (by decide) dL_cells_14 ?_
    exact g_iret hC dL_cells_15 (Or.inl ⟨v, f, σ1, hp, so, rfl, rfl⟩)
  ·
    obtain rfl := hE _ _ _ _ hp
    · refine ⟨11, gCat_1 (by decide) (by decide) lc_13 ck_IAE, fun q => ?_⟩
      refine g_astore_n (n := 12) (ll1 := [some (.ref X), some (.int x), some (.ref o), some (.ref q)]) hC dL_cells_11 rfl ?_
      refine g_iconst (n := 13) (v := (nI 1)) hC (by decide) dL_cells_12 ?_
      exact g_iret hC dL_cells_13 (Or.inr ⟨"java/lang/IllegalArgumentException", 1, hp, by decide, rfl⟩)

set_option maxRecDepth 20000 in
theorem W_chain (K : GK) {σ : GS} {L : List Nat} {z X o : Nat} {fs : List Value} {x : Int32} {PoF : GP} {PxF : GPX} (hF : gX K yX7_chain cX7_chain 4 (some .long) 7 1 7 [.ref X, .int x] z L σ PoF PxF) (mX : X ∈ L) (sX : σ X = .inr (7, fs)) (hret : ∀ rv z1 L1 σ1, PoF rv z1 L1 σ1 → ∃ v f, rv = some (.long v) ∧ o ∈ L1 ∧ σ1 o = lA K 1 f) (hE : ∀ E z1 L1 σ1, PxF E z1 L1 σ1 → E = "java/lang/IndexOutOfBoundsException" ∨ E = "java/util/NoSuchElementException") : gHM K yL_chain cL_chain 4 (some .int) [(0, 8, 11, 23), (0, 8, 14, 52)] 8 1 7 [.ref X, .int x, .ref o] z L σ (fun r z1 L1 σ2 => (∃ v f σ3, PoF (some (.long v)) z1 L1 σ3 ∧ σ3 o = lA K 1 f ∧ r = some (.int (nI 0)) ∧ σ2 = va_up σ3 o (lA K 1 (va_up f 0 v))) ∨ (∃ E j, PxF E z1 L1 σ2 ∧ ((E = "java/lang/IndexOutOfBoundsException" ∧ j = 1) ∨ (E = "java/util/NoSuchElementException" ∧ j = 2)) ∧ r = some (.int (nI j)))) := by
  refine g_introH [some (.ref X), some (.int x), some (.ref o), none] (fun Γ hC hH => ?_) (by simp [g_en, lv_args, Value.category])
  refine g_aload_n (n := 1) hC rfl dL_chain_0 ?_
  refine g_iconst (n := 2) (v := (nI 0)) hC (by decide) dL_chain_1 ?_
  refine g_aload_n (n := 3) hC rfl dL_chain_2 ?_
  refine g_iload_n (n := 4) hC rfl dL_chain_3 ?_
  refine g_callF hC hH gv_L_58 hF mX sX (by rfl) (by decide) (by decide) (by rfl) (by rfl) (Nat.le_of_ble_eq_true rfl) (by exact ⟨Nat.le_refl _, Nat.le_refl _⟩) dL_chain_4 (fun rv z1 L1 σ1 hp => ?_) (fun E z1 L1 σ1 hp => ?_)
  ·
    obtain ⟨v, f, rfl, mo, so⟩ := hret _ _ _ _ hp
    refine g_last (n := 8) (j := 0) (f := f) hC (mo) (so) (rfl) (by omega) (by decide) dL_chain_7 ?_
    refine g_goto (n := 17) hC dL_chain_8 ?_
    refine g_iconst (n := 18) (v := (nI 0)) hC (by decide) dL_chain_17 ?_
    exact g_iret hC dL_chain_18 (Or.inl ⟨v, f, σ1, hp, so, rfl, rfl⟩)
  ·
    rcases hE _ _ _ _ hp with rfl | rfl
    · refine ⟨11, gCat_1 (by decide) (by decide) lc_23 ck_IOB, fun q => ?_⟩
      refine g_astore_n (n := 12) (ll1 := [some (.ref X), some (.int x), some (.ref o), some (.ref q)]) hC dL_chain_11 rfl ?_
      refine g_iconst (n := 13) (v := (nI 1)) hC (by decide) dL_chain_12 ?_
      exact g_iret hC dL_chain_13 (Or.inr ⟨"java/lang/IndexOutOfBoundsException", 1, hp, by decide, rfl⟩)
    · refine ⟨14, gCat_s (by decide) lc_23 (List.mem_of_getElem? (i := 4) rfl) (gCat_1 (by decide) (by decide) lc_52 ck_NSE), fun q => ?_⟩
      refine g_astore_n (n := 15) (ll1 := [some (.ref X), some (.int x), some (.ref o), some (.ref q)]) hC dL_chain_14 rfl ?_
      refine g_iconst (n := 16) (v := (nI 2)) hC (by decide) dL_chain_15 ?_
      exact g_iret hC dL_chain_16 (Or.inr ⟨"java/util/NoSuchElementException", 2, hp, by decide, rfl⟩)

set_option maxRecDepth 20000 in
theorem W_stonesToEnclose (K : GK) {σ : GS} {L : List Nat} {z X o : Nat} {fs : List Value} {x : Int32} {y : Int32} {PoF : GP} {PxF : GPX} (hF : gX K yX7_stonesToEnclose cX7_stonesToEnclose 5 (some .int) 7 1 7 [.ref X, .int x, .int y] z L σ PoF PxF) (mX : X ∈ L) (sX : σ X = .inr (7, fs)) (hret : ∀ rv z1 L1 σ1, PoF rv z1 L1 σ1 → ∃ v f, rv = some (.int v) ∧ o ∈ L1 ∧ σ1 o = lA K 1 f) (hE : ∀ E z1 L1 σ1, PxF E z1 L1 σ1 → E = "java/lang/IndexOutOfBoundsException" ∨ E = "java/util/NoSuchElementException") : gHM K yL_stonesToEnclose cL_stonesToEnclose 5 (some .int) [(0, 10, 13, 23), (0, 10, 17, 52)] 8 1 7 [.ref X, .int x, .int y, .ref o] z L σ (fun r z1 L1 σ2 => (∃ v f σ3, PoF (some (.int v)) z1 L1 σ3 ∧ σ3 o = lA K 1 f ∧ r = some (.int (nI 0)) ∧ σ2 = va_up σ3 o (lA K 1 (va_up f 0 v.toInt64))) ∨ (∃ E j, PxF E z1 L1 σ2 ∧ ((E = "java/lang/IndexOutOfBoundsException" ∧ j = 1) ∨ (E = "java/util/NoSuchElementException" ∧ j = 2)) ∧ r = some (.int (nI j)))) := by
  refine g_introH [some (.ref X), some (.int x), some (.int y), some (.ref o), none] (fun Γ hC hH => ?_) (by simp [g_en, lv_args, Value.category])
  refine g_aload_n (n := 1) hC rfl dL_stonesToEnclose_0 ?_
  refine g_iconst (n := 2) (v := (nI 0)) hC (by decide) dL_stonesToEnclose_1 ?_
  refine g_aload_n (n := 3) hC rfl dL_stonesToEnclose_2 ?_
  refine g_iload_n (n := 4) hC rfl dL_stonesToEnclose_3 ?_
  refine g_iload_n (n := 5) hC rfl dL_stonesToEnclose_4 ?_
  refine g_callF hC hH gv_L_61 hF mX sX (by rfl) (by decide) (by decide) (by rfl) (by rfl) (Nat.le_of_ble_eq_true rfl) (by exact ⟨Nat.le_refl _, Nat.le_refl _⟩) dL_stonesToEnclose_5 (fun rv z1 L1 σ1 hp => ?_) (fun E z1 L1 σ1 hp => ?_)
  ·
    obtain ⟨v, f, rfl, mo, so⟩ := hret _ _ _ _ hp
    refine g_i2l (n := 9) hC rfl dL_stonesToEnclose_8 ?_
    refine g_last (n := 10) (j := 0) (f := f) hC (mo) (so) (rfl) (by omega) (by decide) dL_stonesToEnclose_9 ?_
    refine g_goto (n := 21) hC dL_stonesToEnclose_10 ?_
    refine g_iconst (n := 22) (v := (nI 0)) hC (by decide) dL_stonesToEnclose_21 ?_
    exact g_iret hC dL_stonesToEnclose_22 (Or.inl ⟨v, f, σ1, hp, so, rfl, rfl⟩)
  ·
    rcases hE _ _ _ _ hp with rfl | rfl
    · refine ⟨13, gCat_1 (by decide) (by decide) lc_23 ck_IOB, fun q => ?_⟩
      refine g_astore (n := 15) (ll1 := [some (.ref X), some (.int x), some (.int y), some (.ref o), some (.ref q)]) hC dL_stonesToEnclose_13 rfl ?_
      refine g_iconst (n := 16) (v := (nI 1)) hC (by decide) dL_stonesToEnclose_15 ?_
      exact g_iret hC dL_stonesToEnclose_16 (Or.inr ⟨"java/lang/IndexOutOfBoundsException", 1, hp, by decide, rfl⟩)
    · refine ⟨17, gCat_s (by decide) lc_23 (List.mem_of_getElem? (i := 4) rfl) (gCat_1 (by decide) (by decide) lc_52 ck_NSE), fun q => ?_⟩
      refine g_astore (n := 19) (ll1 := [some (.ref X), some (.int x), some (.int y), some (.ref o), some (.ref q)]) hC dL_stonesToEnclose_17 rfl ?_
      refine g_iconst (n := 20) (v := (nI 2)) hC (by decide) dL_stonesToEnclose_19 ?_
      exact g_iret hC dL_stonesToEnclose_20 (Or.inr ⟨"java/util/NoSuchElementException", 2, hp, by decide, rfl⟩)

set_option maxRecDepth 20000 in
theorem W_share (K : GK) {σ : GS} {L : List Nat} {z X o : Nat} {fs : List Value} {x : Int32} {PoF : GP} {PxF : GPX} (hF : gX K yX7_share cX7_share 2 (some .double) 7 1 7 [.ref X, .int x] z L σ PoF PxF) (mX : X ∈ L) (sX : σ X = .inr (7, fs)) (hret : ∀ rv z1 L1 σ1, PoF rv z1 L1 σ1 → ∃ v f, rv = some (.double v) ∧ o ∈ L1 ∧ σ1 o = dA K 1 f) (hE : ∀ E z1 L1 σ1, PxF E z1 L1 σ1 → E = "java/lang/IndexOutOfBoundsException") : gHM K yL_share cL_share 4 (some .int) [(0, 8, 11, 23)] 8 1 7 [.ref X, .int x, .ref o] z L σ (fun r z1 L1 σ2 => (∃ v f σ3, PoF (some (.double v)) z1 L1 σ3 ∧ σ3 o = dA K 1 f ∧ r = some (.int (nI 0)) ∧ σ2 = va_up σ3 o (dA K 1 (va_up f 0 v))) ∨ (∃ E j, PxF E z1 L1 σ2 ∧ ((E = "java/lang/IndexOutOfBoundsException" ∧ j = 1)) ∧ r = some (.int (nI j)))) := by
  refine g_introH [some (.ref X), some (.int x), some (.ref o), none] (fun Γ hC hH => ?_) (by simp [g_en, lv_args, Value.category])
  refine g_aload_n (n := 1) hC rfl dL_share_0 ?_
  refine g_iconst (n := 2) (v := (nI 0)) hC (by decide) dL_share_1 ?_
  refine g_aload_n (n := 3) hC rfl dL_share_2 ?_
  refine g_iload_n (n := 4) hC rfl dL_share_3 ?_
  refine g_callF hC hH gv_L_64 hF mX sX (by rfl) (by decide) (by decide) (by rfl) (by rfl) (Nat.le_of_ble_eq_true rfl) (by exact ⟨Nat.le_refl _, Nat.le_refl _⟩) dL_share_4 (fun rv z1 L1 σ1 hp => ?_) (fun E z1 L1 σ1 hp => ?_)
  ·
    obtain ⟨v, f, rfl, mo, so⟩ := hret _ _ _ _ hp
    refine g_dast (n := 8) (j := 0) (f := f) hC (mo) (so) (rfl) (by omega) (by decide) dL_share_7 ?_
    refine g_goto (n := 14) hC dL_share_8 ?_
    refine g_iconst (n := 15) (v := (nI 0)) hC (by decide) dL_share_14 ?_
    exact g_iret hC dL_share_15 (Or.inl ⟨v, f, σ1, hp, so, rfl, rfl⟩)
  ·
    obtain rfl := hE _ _ _ _ hp
    · refine ⟨11, gCat_1 (by decide) (by decide) lc_23 ck_IOB, fun q => ?_⟩
      refine g_astore_n (n := 12) (ll1 := [some (.ref X), some (.int x), some (.ref o), some (.ref q)]) hC dL_share_11 rfl ?_
      refine g_iconst (n := 13) (v := (nI 1)) hC (by decide) dL_share_12 ?_
      exact g_iret hC dL_share_13 (Or.inr ⟨"java/lang/IndexOutOfBoundsException", 1, hp, by decide, rfl⟩)

set_option maxRecDepth 20000 in
theorem W_round (K : GK) {σ : GS} {L : List Nat} {z X o : Nat} {fs : List Value} {x : Int32} {y : Int32} {PoF : GP} {PxF : GPX} (hF : gX K yX7_round cX7_round 4 (some .int) 7 1 7 [.ref X, .int x, .int y] z L σ PoF PxF) (mX : X ∈ L) (sX : σ X = .inr (7, fs)) (hret : ∀ rv z1 L1 σ1, PoF rv z1 L1 σ1 → ∃ v f, rv = some (.int v) ∧ o ∈ L1 ∧ σ1 o = lA K 1 f) (hE : ∀ E z1 L1 σ1, PxF E z1 L1 σ1 → E = "java/lang/IndexOutOfBoundsException" ∨ E = "java/lang/IllegalArgumentException") : gHM K yL_round cL_round 5 (some .int) [(0, 10, 13, 23), (0, 10, 17, 13)] 8 1 7 [.ref X, .int x, .int y, .ref o] z L σ (fun r z1 L1 σ2 => (∃ v f σ3, PoF (some (.int v)) z1 L1 σ3 ∧ σ3 o = lA K 1 f ∧ r = some (.int (nI 0)) ∧ σ2 = va_up σ3 o (lA K 1 (va_up f 0 v.toInt64))) ∨ (∃ E j, PxF E z1 L1 σ2 ∧ ((E = "java/lang/IndexOutOfBoundsException" ∧ j = 1) ∨ (E = "java/lang/IllegalArgumentException" ∧ j = 2)) ∧ r = some (.int (nI j)))) := by
  refine g_introH [some (.ref X), some (.int x), some (.int y), some (.ref o), none] (fun Γ hC hH => ?_) (by simp [g_en, lv_args, Value.category])
  refine g_aload_n (n := 1) hC rfl dL_round_0 ?_
  refine g_iconst (n := 2) (v := (nI 0)) hC (by decide) dL_round_1 ?_
  refine g_aload_n (n := 3) hC rfl dL_round_2 ?_
  refine g_iload_n (n := 4) hC rfl dL_round_3 ?_
  refine g_iload_n (n := 5) hC rfl dL_round_4 ?_
  refine g_callF hC hH gv_L_68 hF mX sX (by rfl) (by decide) (by decide) (by rfl) (by rfl) (Nat.le_of_ble_eq_true rfl) (by exact ⟨Nat.le_refl _, Nat.le_refl _⟩) dL_round_5 (fun rv z1 L1 σ1 hp => ?_) (fun E z1 L1 σ1 hp => ?_)
  ·
    obtain ⟨v, f, rfl, mo, so⟩ := hret _ _ _ _ hp
    refine g_i2l (n := 9) hC rfl dL_round_8 ?_
    refine g_last (n := 10) (j := 0) (f := f) hC (mo) (so) (rfl) (by omega) (by decide) dL_round_9 ?_
    refine g_goto (n := 21) hC dL_round_10 ?_
    refine g_iconst (n := 22) (v := (nI 0)) hC (by decide) dL_round_21 ?_
    exact g_iret hC dL_round_22 (Or.inl ⟨v, f, σ1, hp, so, rfl, rfl⟩)
  ·
    rcases hE _ _ _ _ hp with rfl | rfl
    · refine ⟨13, gCat_1 (by decide) (by decide) lc_23 ck_IOB, fun q => ?_⟩
      refine g_astore (n := 15) (ll1 := [some (.ref X), some (.int x), some (.int y), some (.ref o), some (.ref q)]) hC dL_round_13 rfl ?_
      refine g_iconst (n := 16) (v := (nI 1)) hC (by decide) dL_round_15 ?_
      exact g_iret hC dL_round_16 (Or.inr ⟨"java/lang/IndexOutOfBoundsException", 1, hp, by decide, rfl⟩)
    · refine ⟨17, gCat_s (by decide) lc_23 (List.mem_of_getElem? (i := 0) rfl) (gCat_1 (by decide) (by decide) lc_13 ck_IAE), fun q => ?_⟩
      refine g_astore (n := 19) (ll1 := [some (.ref X), some (.int x), some (.int y), some (.ref o), some (.ref q)]) hC dL_round_17 rfl ?_
      refine g_iconst (n := 20) (v := (nI 2)) hC (by decide) dL_round_19 ?_
      exact g_iret hC dL_round_20 (Or.inr ⟨"java/lang/IllegalArgumentException", 2, hp, by decide, rfl⟩)

set_option maxRecDepth 20000 in
theorem W_turningPoint (K : GK) {σ : GS} {L : List Nat} {z X o : Nat} {fs : List Value} {PoF : GP} {PxF : GPX} (hF : gX K yX7_turningPoint cX7_turningPoint 1 (some .int) 7 1 7 [.ref X] z L σ PoF PxF) (mX : X ∈ L) (sX : σ X = .inr (7, fs)) (hret : ∀ rv z1 L1 σ1, PoF rv z1 L1 σ1 → ∃ v f, rv = some (.int v) ∧ o ∈ L1 ∧ σ1 o = lA K 1 f) (hE : ∀ E z1 L1 σ1, PxF E z1 L1 σ1 → E = "java/util/NoSuchElementException") : gHM K yL_turningPoint cL_turningPoint 3 (some .int) [(0, 8, 11, 52)] 8 1 7 [.ref X, .ref o] z L σ (fun r z1 L1 σ2 => (∃ v f σ3, PoF (some (.int v)) z1 L1 σ3 ∧ σ3 o = lA K 1 f ∧ r = some (.int (nI 0)) ∧ σ2 = va_up σ3 o (lA K 1 (va_up f 0 v.toInt64))) ∨ (∃ E j, PxF E z1 L1 σ2 ∧ ((E = "java/util/NoSuchElementException" ∧ j = 1)) ∧ r = some (.int (nI j)))) := by
  refine g_introH [some (.ref X), some (.ref o), none] (fun Γ hC hH => ?_) (by simp [g_en, lv_args, Value.category])
  refine g_aload_n (n := 1) hC rfl dL_turningPoint_0 ?_
  refine g_iconst (n := 2) (v := (nI 0)) hC (by decide) dL_turningPoint_1 ?_
  refine g_aload_n (n := 3) hC rfl dL_turningPoint_2 ?_
  refine g_callF hC hH gv_L_71 hF mX sX (by rfl) (by decide) (by decide) (by rfl) (by rfl) (Nat.le_of_ble_eq_true rfl) (by exact ⟨Nat.le_refl _, Nat.le_refl _⟩) dL_turningPoint_3 (fun rv z1 L1 σ1 hp => ?_) (fun E z1 L1 σ1 hp => ?_)
  ·
    obtain ⟨v, f, rfl, mo, so⟩ := hret _ _ _ _ hp
    refine g_i2l (n := 7) hC rfl dL_turningPoint_6 ?_
    refine g_last (n := 8) (j := 0) (f := f) hC (mo) (so) (rfl) (by omega) (by decide) dL_turningPoint_7 ?_
    refine g_goto (n := 14) hC dL_turningPoint_8 ?_
    refine g_iconst (n := 15) (v := (nI 0)) hC (by decide) dL_turningPoint_14 ?_
    exact g_iret hC dL_turningPoint_15 (Or.inl ⟨v, f, σ1, hp, so, rfl, rfl⟩)
  ·
    obtain rfl := hE _ _ _ _ hp
    · refine ⟨11, gCat_1 (by decide) (by decide) lc_52 ck_NSE, fun q => ?_⟩
      refine g_astore_n (n := 12) (ll1 := [some (.ref X), some (.ref o), some (.ref q)]) hC dL_turningPoint_11 rfl ?_
      refine g_iconst (n := 13) (v := (nI 1)) hC (by decide) dL_turningPoint_12 ?_
      exact g_iret hC dL_turningPoint_13 (Or.inr ⟨"java/util/NoSuchElementException", 1, hp, by decide, rfl⟩)

set_option maxRecDepth 20000 in
theorem W_guarantee (K : GK) {σ : GS} {L : List Nat} {z X o : Nat} {fs : List Value} {x : Int32} {y : Int32} {k : Int32} {PoF : GP} {PxF : GPX} (hF : gX K yX7_guarantee cX7_guarantee 4 (some .int) 9 1 7 [.ref X, .int x, .int y, .int k] z L σ PoF PxF) (mX : X ∈ L) (sX : σ X = .inr (7, fs)) (hret : ∀ rv z1 L1 σ1, PoF rv z1 L1 σ1 → ∃ v f, rv = some (.int v) ∧ o ∈ L1 ∧ σ1 o = lA K 1 f) (hE : ∀ E z1 L1 σ1, PxF E z1 L1 σ1 → E = "java/lang/IndexOutOfBoundsException" ∨ E = "java/lang/IllegalArgumentException" ∨ E = "java/lang/IllegalStateException") : gHM K yL_guarantee cL_guarantee 6 (some .int) [(0, 12, 15, 23), (0, 12, 19, 13), (0, 12, 23, 28)] 10 1 7 [.ref X, .int x, .int y, .int k, .ref o] z L σ (fun r z1 L1 σ2 => (∃ v f σ3, PoF (some (.int v)) z1 L1 σ3 ∧ σ3 o = lA K 1 f ∧ r = some (.int (nI 0)) ∧ σ2 = va_up σ3 o (lA K 1 (va_up f 0 v.toInt64))) ∨ (∃ E j, PxF E z1 L1 σ2 ∧ ((E = "java/lang/IndexOutOfBoundsException" ∧ j = 1) ∨ (E = "java/lang/IllegalArgumentException" ∧ j = 2) ∨ (E = "java/lang/IllegalStateException" ∧ j = 3)) ∧ r = some (.int (nI j)))) := by
  refine g_introH [some (.ref X), some (.int x), some (.int y), some (.int k), some (.ref o), none] (fun Γ hC hH => ?_) (by simp [g_en, lv_args, Value.category])
  refine g_aload (n := 2) hC rfl dL_guarantee_0 ?_
  refine g_iconst (n := 3) (v := (nI 0)) hC (by decide) dL_guarantee_2 ?_
  refine g_aload_n (n := 4) hC rfl dL_guarantee_3 ?_
  refine g_iload_n (n := 5) hC rfl dL_guarantee_4 ?_
  refine g_iload_n (n := 6) hC rfl dL_guarantee_5 ?_
  refine g_iload_n (n := 7) hC rfl dL_guarantee_6 ?_
  refine g_callF hC hH gv_L_74 hF mX sX (by rfl) (by decide) (by decide) (by rfl) (by rfl) (Nat.le_of_ble_eq_true rfl) (by exact ⟨Nat.le_refl _, Nat.le_refl _⟩) dL_guarantee_7 (fun rv z1 L1 σ1 hp => ?_) (fun E z1 L1 σ1 hp => ?_)
  ·
    obtain ⟨v, f, rfl, mo, so⟩ := hret _ _ _ _ hp
    refine g_i2l (n := 11) hC rfl dL_guarantee_10 ?_
    refine g_last (n := 12) (j := 0) (f := f) hC (mo) (so) (rfl) (by omega) (by decide) dL_guarantee_11 ?_
    refine g_goto (n := 27) hC dL_guarantee_12 ?_
    refine g_iconst (n := 28) (v := (nI 0)) hC (by decide) dL_guarantee_27 ?_
    exact g_iret hC dL_guarantee_28 (Or.inl ⟨v, f, σ1, hp, so, rfl, rfl⟩)
  ·
    rcases hE _ _ _ _ hp with rfl | rfl | rfl
    · refine ⟨15, gCat_1 (by decide) (by decide) lc_23 ck_IOB, fun q => ?_⟩
      refine g_astore (n := 17) (ll1 := [some (.ref X), some (.int x), some (.int y), some (.int k), some (.ref o), some (.ref q)]) hC dL_guarantee_15 rfl ?_
      refine g_iconst (n := 18) (v := (nI 1)) hC (by decide) dL_guarantee_17 ?_
      exact g_iret hC dL_guarantee_18 (Or.inr ⟨"java/lang/IndexOutOfBoundsException", 1, hp, by decide, rfl⟩)
    · refine ⟨19, gCat_s (by decide) lc_23 (List.mem_of_getElem? (i := 0) rfl) (gCat_1 (by decide) (by decide) lc_13 ck_IAE), fun q => ?_⟩
      refine g_astore (n := 21) (ll1 := [some (.ref X), some (.int x), some (.int y), some (.int k), some (.ref o), some (.ref q)]) hC dL_guarantee_19 rfl ?_
      refine g_iconst (n := 22) (v := (nI 2)) hC (by decide) dL_guarantee_21 ?_
      exact g_iret hC dL_guarantee_22 (Or.inr ⟨"java/lang/IllegalArgumentException", 2, hp, by decide, rfl⟩)
    · refine ⟨23, gCat_s (by decide) lc_23 (List.mem_of_getElem? (i := 1) rfl) (gCat_s (by decide) lc_13 (List.mem_of_getElem? (i := 5) rfl) (gCat_1 (by decide) (by decide) lc_28 ck_ISE)), fun q => ?_⟩
      refine g_astore (n := 25) (ll1 := [some (.ref X), some (.int x), some (.int y), some (.int k), some (.ref o), some (.ref q)]) hC dL_guarantee_23 rfl ?_
      refine g_iconst (n := 26) (v := (nI 3)) hC (by decide) dL_guarantee_25 ?_
      exact g_iret hC dL_guarantee_26 (Or.inr ⟨"java/lang/IllegalStateException", 3, hp, by decide, rfl⟩)

set_option maxRecDepth 20000 in
theorem W_best (K : GK) {σ : GS} {L : List Nat} {z X o : Nat} {fs : List Value} {x : Int32} {y : Int32} {PoF : GP} {PxF : GPX} (hF : gX K yX7_best cX7_best 8 (some .int) 11 1 7 [.ref X, .int x, .int y] z L σ PoF PxF) (mX : X ∈ L) (sX : σ X = .inr (7, fs)) (hret : ∀ rv z1 L1 σ1, PoF rv z1 L1 σ1 → ∃ v f, rv = some (.int v) ∧ o ∈ L1 ∧ σ1 o = lA K 1 f) (hE : ∀ E z1 L1 σ1, PxF E z1 L1 σ1 → E = "java/lang/IndexOutOfBoundsException" ∨ E = "java/lang/IllegalArgumentException" ∨ E = "java/lang/IllegalStateException") : gHM K yL_best cL_best 5 (some .int) [(0, 10, 13, 23), (0, 10, 17, 13), (0, 10, 21, 28)] 12 1 7 [.ref X, .int x, .int y, .ref o] z L σ (fun r z1 L1 σ2 => (∃ v f σ3, PoF (some (.int v)) z1 L1 σ3 ∧ σ3 o = lA K 1 f ∧ r = some (.int (nI 0)) ∧ σ2 = va_up σ3 o (lA K 1 (va_up f 0 v.toInt64))) ∨ (∃ E j, PxF E z1 L1 σ2 ∧ ((E = "java/lang/IndexOutOfBoundsException" ∧ j = 1) ∨ (E = "java/lang/IllegalArgumentException" ∧ j = 2) ∨ (E = "java/lang/IllegalStateException" ∧ j = 3)) ∧ r = some (.int (nI j)))) := by
  refine g_introH [some (.ref X), some (.int x), some (.int y), some (.ref o), none] (fun Γ hC hH => ?_) (by simp [g_en, lv_args, Value.category])
  refine g_aload_n (n := 1) hC rfl dL_best_0 ?_
  refine g_iconst (n := 2) (v := (nI 0)) hC (by decide) dL_best_1 ?_
  refine g_aload_n (n := 3) hC rfl dL_best_2 ?_
  refine g_iload_n (n := 4) hC rfl dL_best_3 ?_
  refine g_iload_n (n := 5) hC rfl dL_best_4 ?_
  refine g_callF hC hH gv_L_77 hF mX sX (by rfl) (by decide) (by decide) (by rfl) (by rfl) (Nat.le_of_ble_eq_true rfl) (by exact ⟨Nat.le_refl _, Nat.le_refl _⟩) dL_best_5 (fun rv z1 L1 σ1 hp => ?_) (fun E z1 L1 σ1 hp => ?_)
  ·
    obtain ⟨v, f, rfl, mo, so⟩ := hret _ _ _ _ hp
    refine g_i2l (n := 9) hC rfl dL_best_8 ?_
    refine g_last (n := 10) (j := 0) (f := f) hC (mo) (so) (rfl) (by omega) (by decide) dL_best_9 ?_
    refine g_goto (n := 25) hC dL_best_10 ?_
    refine g_iconst (n := 26) (v := (nI 0)) hC (by decide) dL_best_25 ?_
    exact g_iret hC dL_best_26 (Or.inl ⟨v, f, σ1, hp, so, rfl, rfl⟩)
  ·
    rcases hE _ _ _ _ hp with rfl | rfl | rfl
    · refine ⟨13, gCat_1 (by decide) (by decide) lc_23 ck_IOB, fun q => ?_⟩
      refine g_astore (n := 15) (ll1 := [some (.ref X), some (.int x), some (.int y), some (.ref o), some (.ref q)]) hC dL_best_13 rfl ?_
      refine g_iconst (n := 16) (v := (nI 1)) hC (by decide) dL_best_15 ?_
      exact g_iret hC dL_best_16 (Or.inr ⟨"java/lang/IndexOutOfBoundsException", 1, hp, by decide, rfl⟩)
    · refine ⟨17, gCat_s (by decide) lc_23 (List.mem_of_getElem? (i := 0) rfl) (gCat_1 (by decide) (by decide) lc_13 ck_IAE), fun q => ?_⟩
      refine g_astore (n := 19) (ll1 := [some (.ref X), some (.int x), some (.int y), some (.ref o), some (.ref q)]) hC dL_best_17 rfl ?_
      refine g_iconst (n := 20) (v := (nI 2)) hC (by decide) dL_best_19 ?_
      exact g_iret hC dL_best_20 (Or.inr ⟨"java/lang/IllegalArgumentException", 2, hp, by decide, rfl⟩)
    · refine ⟨21, gCat_s (by decide) lc_23 (List.mem_of_getElem? (i := 1) rfl) (gCat_s (by decide) lc_13 (List.mem_of_getElem? (i := 5) rfl) (gCat_1 (by decide) (by decide) lc_28 ck_ISE)), fun q => ?_⟩
      refine g_astore (n := 23) (ll1 := [some (.ref X), some (.int x), some (.int y), some (.ref o), some (.ref q)]) hC dL_best_21 rfl ?_
      refine g_iconst (n := 24) (v := (nI 3)) hC (by decide) dL_best_23 ?_
      exact g_iret hC dL_best_24 (Or.inr ⟨"java/lang/IllegalStateException", 3, hp, by decide, rfl⟩)

set_option maxRecDepth 20000 in
theorem W_report (K : GK) {σ : GS} {L : List Nat} {z X o : Nat} {fs : List Value} {x : Int32} {y : Int32} {PoF : GP} {PxF : GPX} (hF : gX K yX7_report cX7_report 3 (some .int) 7 1 7 [.ref X, .int x, .int y] z L σ PoF PxF) (mX : X ∈ L) (sX : σ X = .inr (7, fs)) (hret : ∀ rv z1 L1 σ1, PoF rv z1 L1 σ1 → ∃ v f, rv = some (.int v) ∧ o ∈ L1 ∧ σ1 o = lA K 1 f) (hE : ∀ E z1 L1 σ1, PxF E z1 L1 σ1 → E = "java/util/NoSuchElementException" ∨ E = "java/lang/IllegalArgumentException") : gHM K yL_report cL_report 5 (some .int) [(0, 10, 13, 52), (0, 10, 17, 13)] 8 1 7 [.ref X, .int x, .int y, .ref o] z L σ (fun r z1 L1 σ2 => (∃ v f σ3, PoF (some (.int v)) z1 L1 σ3 ∧ σ3 o = lA K 1 f ∧ r = some (.int (nI 0)) ∧ σ2 = va_up σ3 o (lA K 1 (va_up f 0 v.toInt64))) ∨ (∃ E j, PxF E z1 L1 σ2 ∧ ((E = "java/util/NoSuchElementException" ∧ j = 1) ∨ (E = "java/lang/IllegalArgumentException" ∧ j = 2)) ∧ r = some (.int (nI j)))) := by
  refine g_introH [some (.ref X), some (.int x), some (.int y), some (.ref o), none] (fun Γ hC hH => ?_) (by simp [g_en, lv_args, Value.category])
  refine g_aload_n (n := 1) hC rfl dL_report_0 ?_
  refine g_iconst (n := 2) (v := (nI 0)) hC (by decide) dL_report_1 ?_
  refine g_aload_n (n := 3) hC rfl dL_report_2 ?_
  refine g_iload_n (n := 4) hC rfl dL_report_3 ?_
  refine g_iload_n (n := 5) hC rfl dL_report_4 ?_
  refine g_callF hC hH gv_L_80 hF mX sX (by rfl) (by decide) (by decide) (by rfl) (by rfl) (Nat.le_of_ble_eq_true rfl) (by exact ⟨Nat.le_refl _, Nat.le_refl _⟩) dL_report_5 (fun rv z1 L1 σ1 hp => ?_) (fun E z1 L1 σ1 hp => ?_)
  ·
    obtain ⟨v, f, rfl, mo, so⟩ := hret _ _ _ _ hp
    refine g_i2l (n := 9) hC rfl dL_report_8 ?_
    refine g_last (n := 10) (j := 0) (f := f) hC (mo) (so) (rfl) (by omega) (by decide) dL_report_9 ?_
    refine g_goto (n := 21) hC dL_report_10 ?_
    refine g_iconst (n := 22) (v := (nI 0)) hC (by decide) dL_report_21 ?_
    exact g_iret hC dL_report_22 (Or.inl ⟨v, f, σ1, hp, so, rfl, rfl⟩)
  ·
    rcases hE _ _ _ _ hp with rfl | rfl
    · refine ⟨13, gCat_1 (by decide) (by decide) lc_52 ck_NSE, fun q => ?_⟩
      refine g_astore (n := 15) (ll1 := [some (.ref X), some (.int x), some (.int y), some (.ref o), some (.ref q)]) hC dL_report_13 rfl ?_
      refine g_iconst (n := 16) (v := (nI 1)) hC (by decide) dL_report_15 ?_
      exact g_iret hC dL_report_16 (Or.inr ⟨"java/util/NoSuchElementException", 1, hp, by decide, rfl⟩)
    · refine ⟨17, gCat_s (by decide) lc_52 (List.mem_of_getElem? (i := 6) rfl) (gCat_1 (by decide) (by decide) lc_13 ck_IAE), fun q => ?_⟩
      refine g_astore (n := 19) (ll1 := [some (.ref X), some (.int x), some (.int y), some (.ref o), some (.ref q)]) hC dL_report_17 rfl ?_
      refine g_iconst (n := 20) (v := (nI 2)) hC (by decide) dL_report_19 ?_
      exact g_iret hC dL_report_20 (Or.inr ⟨"java/lang/IllegalArgumentException", 2, hp, by decide, rfl⟩)

set_option maxRecDepth 20000 in
theorem W_feed (K : GK) {σ : GS} {L : List Nat} {z X o : Nat} {fs : List Value} {x : Int32} {PoF : GP} {PxF : GPX} (hF : gX K yX7_feed cX7_feed 2 (some .int) 7 1 7 [.ref X, .int x] z L σ PoF PxF) (mX : X ∈ L) (sX : σ X = .inr (7, fs)) (hret : ∀ rv z1 L1 σ1, PoF rv z1 L1 σ1 → ∃ v f, rv = some (.int v) ∧ o ∈ L1 ∧ σ1 o = lA K 1 f) (hE : ∀ E z1 L1 σ1, PxF E z1 L1 σ1 → E = "java/lang/IllegalStateException") : gHM K yL_feed cL_feed 4 (some .int) [(0, 9, 12, 28)] 8 1 7 [.ref X, .int x, .ref o] z L σ (fun r z1 L1 σ2 => (∃ v f σ3, PoF (some (.int v)) z1 L1 σ3 ∧ σ3 o = lA K 1 f ∧ r = some (.int (nI 0)) ∧ σ2 = va_up σ3 o (lA K 1 (va_up f 0 v.toInt64))) ∨ (∃ E j, PxF E z1 L1 σ2 ∧ ((E = "java/lang/IllegalStateException" ∧ j = 1)) ∧ r = some (.int (nI j)))) := by
  refine g_introH [some (.ref X), some (.int x), some (.ref o), none] (fun Γ hC hH => ?_) (by simp [g_en, lv_args, Value.category])
  refine g_aload_n (n := 1) hC rfl dL_feed_0 ?_
  refine g_iconst (n := 2) (v := (nI 0)) hC (by decide) dL_feed_1 ?_
  refine g_aload_n (n := 3) hC rfl dL_feed_2 ?_
  refine g_iload_n (n := 4) hC rfl dL_feed_3 ?_
  refine g_callF hC hH gv_L_83 hF mX sX (by rfl) (by decide) (by decide) (by rfl) (by rfl) (Nat.le_of_ble_eq_true rfl) (by exact ⟨Nat.le_refl _, Nat.le_refl _⟩) dL_feed_4 (fun rv z1 L1 σ1 hp => ?_) (fun E z1 L1 σ1 hp => ?_)
  ·
    obtain ⟨v, f, rfl, mo, so⟩ := hret _ _ _ _ hp
    refine g_i2l (n := 8) hC rfl dL_feed_7 ?_
    refine g_last (n := 9) (j := 0) (f := f) hC (mo) (so) (rfl) (by omega) (by decide) dL_feed_8 ?_
    refine g_goto (n := 15) hC dL_feed_9 ?_
    refine g_iconst (n := 16) (v := (nI 0)) hC (by decide) dL_feed_15 ?_
    exact g_iret hC dL_feed_16 (Or.inl ⟨v, f, σ1, hp, so, rfl, rfl⟩)
  ·
    obtain rfl := hE _ _ _ _ hp
    · refine ⟨12, gCat_1 (by decide) (by decide) lc_28 ck_ISE, fun q => ?_⟩
      refine g_astore_n (n := 13) (ll1 := [some (.ref X), some (.int x), some (.ref o), some (.ref q)]) hC dL_feed_12 rfl ?_
      refine g_iconst (n := 14) (v := (nI 1)) hC (by decide) dL_feed_13 ?_
      exact g_iret hC dL_feed_14 (Or.inr ⟨"java/lang/IllegalStateException", 1, hp, by decide, rfl⟩)

set_option maxRecDepth 20000 in
theorem W_readRecord (K : GK) {σ : GS} {L : List Nat} {z X o : Nat} {fs : List Value} {PoF : GP} {PxF : GPX} (hF : gX K yX7_readRecord cX7_readRecord 6 (some .int) 8 1 7 [.ref X] z L σ PoF PxF) (mX : X ∈ L) (sX : σ X = .inr (7, fs)) (hret : ∀ rv z1 L1 σ1, PoF rv z1 L1 σ1 → ∃ v f, rv = some (.int v) ∧ o ∈ L1 ∧ σ1 o = lA K 1 f) (hE : ∀ E z1 L1 σ1, PxF E z1 L1 σ1 → E = "java/lang/UnsupportedOperationException") : gHM K yL_readRecord cL_readRecord 3 (some .int) [(0, 8, 11, 30)] 9 1 7 [.ref X, .ref o] z L σ (fun r z1 L1 σ2 => (∃ v f σ3, PoF (some (.int v)) z1 L1 σ3 ∧ σ3 o = lA K 1 f ∧ r = some (.int (nI 0)) ∧ σ2 = va_up σ3 o (lA K 1 (va_up f 0 v.toInt64))) ∨ (∃ E j, PxF E z1 L1 σ2 ∧ ((E = "java/lang/UnsupportedOperationException" ∧ j = 1)) ∧ r = some (.int (nI j)))) := by
  refine g_introH [some (.ref X), some (.ref o), none] (fun Γ hC hH => ?_) (by simp [g_en, lv_args, Value.category])
  refine g_aload_n (n := 1) hC rfl dL_readRecord_0 ?_
  refine g_iconst (n := 2) (v := (nI 0)) hC (by decide) dL_readRecord_1 ?_
  refine g_aload_n (n := 3) hC rfl dL_readRecord_2 ?_
  refine g_callF hC hH gv_L_87 hF mX sX (by rfl) (by decide) (by decide) (by rfl) (by rfl) (Nat.le_of_ble_eq_true rfl) (by exact ⟨Nat.le_refl _, Nat.le_refl _⟩) dL_readRecord_3 (fun rv z1 L1 σ1 hp => ?_) (fun E z1 L1 σ1 hp => ?_)
  ·
    obtain ⟨v, f, rfl, mo, so⟩ := hret _ _ _ _ hp
    refine g_i2l (n := 7) hC rfl dL_readRecord_6 ?_
    refine g_last (n := 8) (j := 0) (f := f) hC (mo) (so) (rfl) (by omega) (by decide) dL_readRecord_7 ?_
    refine g_goto (n := 14) hC dL_readRecord_8 ?_
    refine g_iconst (n := 15) (v := (nI 0)) hC (by decide) dL_readRecord_14 ?_
    exact g_iret hC dL_readRecord_15 (Or.inl ⟨v, f, σ1, hp, so, rfl, rfl⟩)
  ·
    obtain rfl := hE _ _ _ _ hp
    · refine ⟨11, gCat_1 (by decide) (by decide) lc_30 ck_UOE, fun q => ?_⟩
      refine g_astore_n (n := 12) (ll1 := [some (.ref X), some (.ref o), some (.ref q)]) hC dL_readRecord_11 rfl ?_
      refine g_iconst (n := 13) (v := (nI 1)) hC (by decide) dL_readRecord_12 ?_
      exact g_iret hC dL_readRecord_13 (Or.inr ⟨"java/lang/UnsupportedOperationException", 1, hp, by decide, rfl⟩)

set_option maxRecDepth 20000 in
theorem W_written (K : GK) {σ : GS} {L : List Nat} {z X o : Nat} {fs : List Value} {x : Int32} {PoF : GP} {PxF : GPX} (hF : gX K yX7_written cX7_written 5 (some .char) 7 1 7 [.ref X, .int x] z L σ PoF PxF) (mX : X ∈ L) (sX : σ X = .inr (7, fs)) (hret : ∀ rv z1 L1 σ1, PoF rv z1 L1 σ1 → ∃ v f, rv = some (.int v) ∧ o ∈ L1 ∧ σ1 o = lA K 1 f) (hE : ∀ E z1 L1 σ1, PxF E z1 L1 σ1 → E = "java/lang/IndexOutOfBoundsException") : gHM K yL_written cL_written 4 (some .int) [(0, 9, 12, 23)] 8 1 7 [.ref X, .int x, .ref o] z L σ (fun r z1 L1 σ2 => (∃ v f σ3, PoF (some (.int v)) z1 L1 σ3 ∧ σ3 o = lA K 1 f ∧ r = some (.int (nI 0)) ∧ σ2 = va_up σ3 o (lA K 1 (va_up f 0 v.toInt64))) ∨ (∃ E j, PxF E z1 L1 σ2 ∧ ((E = "java/lang/IndexOutOfBoundsException" ∧ j = 1)) ∧ r = some (.int (nI j)))) := by
  refine g_introH [some (.ref X), some (.int x), some (.ref o), none] (fun Γ hC hH => ?_) (by simp [g_en, lv_args, Value.category])
  refine g_aload_n (n := 1) hC rfl dL_written_0 ?_
  refine g_iconst (n := 2) (v := (nI 0)) hC (by decide) dL_written_1 ?_
  refine g_aload_n (n := 3) hC rfl dL_written_2 ?_
  refine g_iload_n (n := 4) hC rfl dL_written_3 ?_
  refine g_callF hC hH gv_L_90 hF mX sX (by rfl) (by decide) (by decide) (by rfl) (by rfl) (Nat.le_of_ble_eq_true rfl) (by exact ⟨Nat.le_refl _, Nat.le_refl _⟩) dL_written_4 (fun rv z1 L1 σ1 hp => ?_) (fun E z1 L1 σ1 hp => ?_)
  ·
    obtain ⟨v, f, rfl, mo, so⟩ := hret _ _ _ _ hp
    refine g_i2l (n := 8) hC rfl dL_written_7 ?_
    refine g_last (n := 9) (j := 0) (f := f) hC (mo) (so) (rfl) (by omega) (by decide) dL_written_8 ?_
    refine g_goto (n := 15) hC dL_written_9 ?_
    refine g_iconst (n := 16) (v := (nI 0)) hC (by decide) dL_written_15 ?_
    exact g_iret hC dL_written_16 (Or.inl ⟨v, f, σ1, hp, so, rfl, rfl⟩)
  ·
    obtain rfl := hE _ _ _ _ hp
    · refine ⟨12, gCat_1 (by decide) (by decide) lc_23 ck_IOB, fun q => ?_⟩
      refine g_astore_n (n := 13) (ll1 := [some (.ref X), some (.int x), some (.ref o), some (.ref q)]) hC dL_written_12 rfl ?_
      refine g_iconst (n := 14) (v := (nI 1)) hC (by decide) dL_written_13 ?_
      exact g_iret hC dL_written_14 (Or.inr ⟨"java/lang/IndexOutOfBoundsException", 1, hp, by decide, rfl⟩)

set_option maxRecDepth 20000 in
theorem W_restore (K : GK) {σ : GS} {L : List Nat} {z X o : Nat} {fs : List Value} {PoF : GP} {PxF : GPX} (hF : gX K yX7_restore cX7_restore 1 (some .int) 7 1 7 [.ref X] z L σ PoF PxF) (mX : X ∈ L) (sX : σ X = .inr (7, fs)) (hret : ∀ rv z1 L1 σ1, PoF rv z1 L1 σ1 → ∃ v f, rv = some (.int v) ∧ o ∈ L1 ∧ σ1 o = lA K 1 f) (hE : ∀ E z1 L1 σ1, PxF E z1 L1 σ1 → E = "java/lang/IllegalStateException") : gHM K yL_restore cL_restore 3 (some .int) [(0, 8, 11, 28)] 8 1 7 [.ref X, .ref o] z L σ (fun r z1 L1 σ2 => (∃ v f σ3, PoF (some (.int v)) z1 L1 σ3 ∧ σ3 o = lA K 1 f ∧ r = some (.int (nI 0)) ∧ σ2 = va_up σ3 o (lA K 1 (va_up f 0 v.toInt64))) ∨ (∃ E j, PxF E z1 L1 σ2 ∧ ((E = "java/lang/IllegalStateException" ∧ j = 1)) ∧ r = some (.int (nI j)))) := by
  refine g_introH [some (.ref X), some (.ref o), none] (fun Γ hC hH => ?_) (by simp [g_en, lv_args, Value.category])
  refine g_aload_n (n := 1) hC rfl dL_restore_0 ?_
  refine g_iconst (n := 2) (v := (nI 0)) hC (by decide) dL_restore_1 ?_
  refine g_aload_n (n := 3) hC rfl dL_restore_2 ?_
  refine g_callF hC hH gv_L_94 hF mX sX (by rfl) (by decide) (by decide) (by rfl) (by rfl) (Nat.le_of_ble_eq_true rfl) (by exact ⟨Nat.le_refl _, Nat.le_refl _⟩) dL_restore_3 (fun rv z1 L1 σ1 hp => ?_) (fun E z1 L1 σ1 hp => ?_)
  ·
    obtain ⟨v, f, rfl, mo, so⟩ := hret _ _ _ _ hp
    refine g_i2l (n := 7) hC rfl dL_restore_6 ?_
    refine g_last (n := 8) (j := 0) (f := f) hC (mo) (so) (rfl) (by omega) (by decide) dL_restore_7 ?_
    refine g_goto (n := 14) hC dL_restore_8 ?_
    refine g_iconst (n := 15) (v := (nI 0)) hC (by decide) dL_restore_14 ?_
    exact g_iret hC dL_restore_15 (Or.inl ⟨v, f, σ1, hp, so, rfl, rfl⟩)
  ·
    obtain rfl := hE _ _ _ _ hp
    · refine ⟨11, gCat_1 (by decide) (by decide) lc_28 ck_ISE, fun q => ?_⟩
      refine g_astore_n (n := 12) (ll1 := [some (.ref X), some (.ref o), some (.ref q)]) hC dL_restore_11 rfl ?_
      refine g_iconst (n := 13) (v := (nI 1)) hC (by decide) dL_restore_12 ?_
      exact g_iret hC dL_restore_13 (Or.inr ⟨"java/lang/IllegalStateException", 1, hp, by decide, rfl⟩)
