def mIn (K : GK) : Nat → va_E
  | 1 => iA K 2 (fun _ => 0)
  | 2 => iA K 155 (fun _ => 0)
  | 3 => iA K 155 (fun _ => 0)
  | 4 => iA K 155 (fun _ => 0)
  | 5 => iA K 9300 (fun _ => 0)
  | 6 => iA K 420 (fun _ => 0)
  | 7 => iA K 480 (fun _ => 0)
  | 8 => iA K 155 (fun _ => 0)
  | 9 => iA K 9300 (fun _ => 0)
  | 10 => iA K 420 (fun _ => 0)
  | 11 => iA K 480 (fun _ => 0)
  | 12 => iA K 2 (fun _ => 0)
  | 13 => iA K 98 (fun _ => 0)
  | 14 => iA K 8 (fun _ => 0)
  | 15 => iA K 4 (fun _ => 0)
  | 16 => iA K 4 (fun _ => 0)
  | 17 => cA K 80 (fun _ => 0)
  | _ => .inl (0, 0, .inl (fun _ => 0))

def sc0 : Nat → Int32 := fun i => if i = 1 ∨ i = 2 then nI 5 else 0
def ar0 : Nat → Nat → Int32 := fun _ _ => 0
theorem in_mdl {K : GK} {M : Nat} {σ0 : GS} : inW M (.inr (8, mfl M sc0)) (mIn K) 17 σ0 = mdl K M sc0 ar0 σ0 := by
  funext b
  by_cases e : b = M
  · rw [e, inW_o, mdl_0]
  · by_cases e1 : M < b ∧ b ≤ M + 17
    · have h : b = M + 1 ∨ b = M + 2 ∨ b = M + 3 ∨ b = M + 4 ∨ b = M + 5 ∨ b = M + 6 ∨ b = M + 7 ∨ b = M + 8 ∨ b = M + 9 ∨ b = M + 10 ∨ b = M + 11 ∨ b = M + 12 ∨ b = M + 13 ∨ b = M + 14 ∨ b = M + 15 ∨ b = M + 16 ∨ b = M + 17 := by omega
      rcases h with rfl | rfl | rfl | rfl | rfl | rfl | rfl | rfl | rfl | rfl | rfl | rfl | rfl | rfl | rfl | rfl | rfl
      · rw [inW_m (by omega) (by omega), mdl_4]; rfl
      · rw [inW_m (by omega) (by omega), mdl_5]; rfl
      · rw [inW_m (by omega) (by omega), mdl_6]; rfl
      · rw [inW_m (by omega) (by omega), mdl_7]; rfl
      · rw [inW_m (by omega) (by omega), mdl_8]; rfl
      · rw [inW_m (by omega) (by omega), mdl_9]; rfl
      · rw [inW_m (by omega) (by omega), mdl_10]; rfl
      · rw [inW_m (by omega) (by omega), mdl_11]; rfl
      · rw [inW_m (by omega) (by omega), mdl_12]; rfl
      · rw [inW_m (by omega) (by omega), mdl_13]; rfl
      · rw [inW_m (by omega) (by omega), mdl_14]; rfl
      · rw [inW_m (by omega) (by omega), mdl_15]; rfl
      · rw [inW_m (by omega) (by omega), mdl_20]; rfl
      · rw [inW_m (by omega) (by omega), mdl_21]; rfl
      · rw [inW_m (by omega) (by omega), mdl_25]; rfl
      · rw [inW_m (by omega) (by omega), mdl_26]; rfl
      · rw [inW_m (by omega) (by omega), mdl_28]; rfl
    · rw [inW, if_neg e, if_neg e1, mdl]
      rw [if_neg (by omega), if_neg (by omega), if_neg (by omega), if_neg (by omega), if_neg (by omega), if_neg (by omega), if_neg (by omega), if_neg (by omega), if_neg (by omega), if_neg (by omega), if_neg (by omega), if_neg (by omega), if_neg (by omega), if_neg (by omega), if_neg (by omega), if_neg (by omega), if_neg (by omega), if_neg (by omega)]

theorem hoX8 : ∀ C T N, vwCl[8]? = some (C, T, N) → C = RX8 := fun C T N h => by
  have h2 := Option.some.inj (show some _ = some (C, T, N) from h)
  exact (congrArg (fun q => q.1) h2).symm

set_option maxRecDepth 20000 in
set_option maxHeartbeats 2000000 in
theorem M_init (K : GK) {M : Nat} {σ : GS} {L : List Nat} (hM : M ∈ L) (hσ : σ M = .inr (8, [.int 0, .int 0, .int 0, .int 0, .null, .null, .null, .null, .null, .null, .null, .null, .null, .null, .null, .null, .int 0, .int 0, .int 0, .int 0, .null, .null, .int 0, .int 0, .int 0, .null, .null, .int 0, .null, .int 0, .int 0, .int 0, .int 0])) : gM K yX8_init cX8_init 1 none 1 17 21218 [.ref M] (M + 1) L σ (fun r z1 L1 σ2 => r = none ∧ z1 = M + 1 + 17 ∧ L1 = ladd L (M + 1) 17 ∧ σ2 = mdl K M sc0 (va_up ar0 5 (bgF 5 5 (ar0 5) 0)) σ) := by
  refine g_intro [some (.ref M)] (fun Γ hC => ?_) (by simp [g_en, lv_args, Value.category])
  refine G.eqs (show _ = inW M (.inr (8, [.int 0, .int 0, .int 0, .int 0, .null, .null, .null, .null, .null, .null, .null, .null, .null, .null, .null, .null, .int 0, .int 0, .int 0, .int 0, .null, .null, .int 0, .int 0, .int 0, .null, .null, .int 0, .null, .int 0, .int 0, .int 0, .int 0])) (mIn K) 0 σ from inW_0 hσ) ?_
  show G K Γ (M + 1 + 0, 0, 0, ladd L (M + 1) 0) (inW M (.inr (8, [.int 0, .int 0, .int 0, .int 0, .null, .null, .null, .null, .null, .null, .null, .null, .null, .null, .null, .null, .int 0, .int 0, .int 0, .int 0, .null, .null, .int 0, .int 0, .int 0, .null, .null, .int 0, .null, .int 0, .int 0, .int 0, .int 0])) (mIn K) 0 σ) 0 [some (.ref M)] []
  refine g_aload_n (n := 1) hC rfl dX8_init_0 ?_
  refine g_objI hC tw_906 dX8_init_1 ?_
  refine g_aload_n (n := 5) hC rfl dX8_init_4 ?_
  refine g_iconst (n := 6) (v := nI 5) hC (by decide) dX8_init_5 ?_
  refine g_putf (n := 9) hC gp_X8_9 (ladd_old hM _) inW_o dX8_init_6 ?_
  refine G.eqs (show _ = inW M (.inr (8, [.int 0, .int (nI 5), .int 0, .int 0, .null, .null, .null, .null, .null, .null, .null, .null, .null, .null, .null, .null, .int 0, .int 0, .int 0, .int 0, .null, .null, .int 0, .int 0, .int 0, .null, .null, .int 0, .null, .int 0, .int 0, .int 0, .int 0])) (mIn K) 0 σ from inW_put) ?_
  refine g_aload_n (n := 10) hC rfl dX8_init_9 ?_
  refine g_iconst (n := 11) (v := nI 5) hC (by decide) dX8_init_10 ?_
  refine g_putf (n := 14) hC gp_X8_13 (ladd_old hM _) inW_o dX8_init_11 ?_
  refine G.eqs (show _ = inW M (.inr (8, [.int 0, .int (nI 5), .int (nI 5), .int 0, .null, .null, .null, .null, .null, .null, .null, .null, .null, .null, .null, .null, .int 0, .int 0, .int 0, .int 0, .null, .null, .int 0, .int 0, .int 0, .null, .null, .int 0, .null, .int 0, .int 0, .int 0, .int 0])) (mIn K) 0 σ from inW_put) ?_
  refine g_aload_n (n := 15) hC rfl dX8_init_14 ?_
  refine g_iconst (n := 16) (v := nI 2) hC (by decide) dX8_init_15 ?_
  refine g_newaI (N := 2) (n := 18) hC rfl (by decide) (by exact gmem (i := 227) (by decide +kernel) (by decide +kernel)) dX8_init_16 ?_ (by exact ⟨Nat.le_of_ble_eq_true rfl, Nat.le_of_ble_eq_true rfl⟩)
  refine G.eqs (show _ = inW M (.inr (8, [.int 0, .int (nI 5), .int (nI 5), .int 0, .null, .null, .null, .null, .null, .null, .null, .null, .null, .null, .null, .null, .int 0, .int 0, .int 0, .int 0, .null, .null, .int 0, .int 0, .int 0, .null, .null, .int 0, .null, .int 0, .int 0, .int 0, .int 0])) (mIn K) 1 σ from inW_new rfl) ?_
  show G K Γ (M + 1 + 1, 1, 2, ladd L (M + 1) 1) (inW M (.inr (8, [.int 0, .int (nI 5), .int (nI 5), .int 0, .null, .null, .null, .null, .null, .null, .null, .null, .null, .null, .null, .null, .int 0, .int 0, .int 0, .int 0, .null, .null, .int 0, .int 0, .int 0, .null, .null, .int 0, .null, .int 0, .int 0, .int 0, .int 0])) (mIn K) 1 σ) 18 [some (.ref M)] [.ref (M + 1 + 0), .ref M]
  refine g_putF (n := 21) hC gp_X8_16 rfl hoX8 (ladd_old hM _) inW_o dX8_init_18 ?_
  refine G.eqs (show _ = inW M (.inr (8, [.int 0, .int (nI 5), .int (nI 5), .int 0, .ref (M + 1 + 0), .null, .null, .null, .null, .null, .null, .null, .null, .null, .null, .null, .int 0, .int 0, .int 0, .int 0, .null, .null, .int 0, .int 0, .int 0, .null, .null, .int 0, .null, .int 0, .int 0, .int 0, .int 0])) (mIn K) 1 σ from inW_put) ?_
  refine g_aload_n (n := 22) hC rfl dX8_init_21 ?_
  refine g_sipush (n := 25) (v := nI 155) hC (by decide) dX8_init_22 ?_
  refine g_newaI (N := 155) (n := 27) hC rfl (by decide) (by exact gmem (i := 227) (by decide +kernel) (by decide +kernel)) dX8_init_25 ?_ (by exact ⟨Nat.le_of_ble_eq_true rfl, Nat.le_of_ble_eq_true rfl⟩)
  refine G.eqs (show _ = inW M (.inr (8, [.int 0, .int (nI 5), .int (nI 5), .int 0, .ref (M + 1 + 0), .null, .null, .null, .null, .null, .null, .null, .null, .null, .null, .null, .int 0, .int 0, .int 0, .int 0, .null, .null, .int 0, .int 0, .int 0, .null, .null, .int 0, .null, .int 0, .int 0, .int 0, .int 0])) (mIn K) 2 σ from inW_new rfl) ?_
  show G K Γ (M + 1 + 2, 2, 157, ladd L (M + 1) 2) (inW M (.inr (8, [.int 0, .int (nI 5), .int (nI 5), .int 0, .ref (M + 1 + 0), .null, .null, .null, .null, .null, .null, .null, .null, .null, .null, .null, .int 0, .int 0, .int 0, .int 0, .null, .null, .int 0, .int 0, .int 0, .null, .null, .int 0, .null, .int 0, .int 0, .int 0, .int 0])) (mIn K) 2 σ) 27 [some (.ref M)] [.ref (M + 1 + 1), .ref M]
  refine g_putF (n := 30) hC gp_X8_20 rfl hoX8 (ladd_old hM _) inW_o dX8_init_27 ?_
  refine G.eqs (show _ = inW M (.inr (8, [.int 0, .int (nI 5), .int (nI 5), .int 0, .ref (M + 1 + 0), .ref (M + 1 + 1), .null, .null, .null, .null, .null, .null, .null, .null, .null, .null, .int 0, .int 0, .int 0, .int 0, .null, .null, .int 0, .int 0, .int 0, .null, .null, .int 0, .null, .int 0, .int 0, .int 0, .int 0])) (mIn K) 2 σ from inW_put) ?_
  refine g_aload_n (n := 31) hC rfl dX8_init_30 ?_
  refine g_sipush (n := 34) (v := nI 155) hC (by decide) dX8_init_31 ?_
  refine g_newaI (N := 155) (n := 36) hC rfl (by decide) (by exact gmem (i := 227) (by decide +kernel) (by decide +kernel)) dX8_init_34 ?_ (by exact ⟨Nat.le_of_ble_eq_true rfl, Nat.le_of_ble_eq_true rfl⟩)
  refine G.eqs (show _ = inW M (.inr (8, [.int 0, .int (nI 5), .int (nI 5), .int 0, .ref (M + 1 + 0), .ref (M + 1 + 1), .null, .null, .null, .null, .null, .null, .null, .null, .null, .null, .int 0, .int 0, .int 0, .int 0, .null, .null, .int 0, .int 0, .int 0, .null, .null, .int 0, .null, .int 0, .int 0, .int 0, .int 0])) (mIn K) 3 σ from inW_new rfl) ?_
  show G K Γ (M + 1 + 3, 3, 312, ladd L (M + 1) 3) (inW M (.inr (8, [.int 0, .int (nI 5), .int (nI 5), .int 0, .ref (M + 1 + 0), .ref (M + 1 + 1), .null, .null, .null, .null, .null, .null, .null, .null, .null, .null, .int 0, .int 0, .int 0, .int 0, .null, .null, .int 0, .int 0, .int 0, .null, .null, .int 0, .null, .int 0, .int 0, .int 0, .int 0])) (mIn K) 3 σ) 36 [some (.ref M)] [.ref (M + 1 + 2), .ref M]
  refine g_putF (n := 39) hC gp_X8_23 rfl hoX8 (ladd_old hM _) inW_o dX8_init_36 ?_
  refine G.eqs (show _ = inW M (.inr (8, [.int 0, .int (nI 5), .int (nI 5), .int 0, .ref (M + 1 + 0), .ref (M + 1 + 1), .ref (M + 1 + 2), .null, .null, .null, .null, .null, .null, .null, .null, .null, .int 0, .int 0, .int 0, .int 0, .null, .null, .int 0, .int 0, .int 0, .null, .null, .int 0, .null, .int 0, .int 0, .int 0, .int 0])) (mIn K) 3 σ from inW_put) ?_
  refine g_aload_n (n := 40) hC rfl dX8_init_39 ?_
  refine g_sipush (n := 43) (v := nI 155) hC (by decide) dX8_init_40 ?_
  refine g_newaI (N := 155) (n := 45) hC rfl (by decide) (by exact gmem (i := 227) (by decide +kernel) (by decide +kernel)) dX8_init_43 ?_ (by exact ⟨Nat.le_of_ble_eq_true rfl, Nat.le_of_ble_eq_true rfl⟩)
  refine G.eqs (show _ = inW M (.inr (8, [.int 0, .int (nI 5), .int (nI 5), .int 0, .ref (M + 1 + 0), .ref (M + 1 + 1), .ref (M + 1 + 2), .null, .null, .null, .null, .null, .null, .null, .null, .null, .int 0, .int 0, .int 0, .int 0, .null, .null, .int 0, .int 0, .int 0, .null, .null, .int 0, .null, .int 0, .int 0, .int 0, .int 0])) (mIn K) 4 σ from inW_new rfl) ?_
  show G K Γ (M + 1 + 4, 4, 467, ladd L (M + 1) 4) (inW M (.inr (8, [.int 0, .int (nI 5), .int (nI 5), .int 0, .ref (M + 1 + 0), .ref (M + 1 + 1), .ref (M + 1 + 2), .null, .null, .null, .null, .null, .null, .null, .null, .null, .int 0, .int 0, .int 0, .int 0, .null, .null, .int 0, .int 0, .int 0, .null, .null, .int 0, .null, .int 0, .int 0, .int 0, .int 0])) (mIn K) 4 σ) 45 [some (.ref M)] [.ref (M + 1 + 3), .ref M]
  refine g_putF (n := 48) hC gp_X8_26 rfl hoX8 (ladd_old hM _) inW_o dX8_init_45 ?_
  refine G.eqs (show _ = inW M (.inr (8, [.int 0, .int (nI 5), .int (nI 5), .int 0, .ref (M + 1 + 0), .ref (M + 1 + 1), .ref (M + 1 + 2), .ref (M + 1 + 3), .null, .null, .null, .null, .null, .null, .null, .null, .int 0, .int 0, .int 0, .int 0, .null, .null, .int 0, .int 0, .int 0, .null, .null, .int 0, .null, .int 0, .int 0, .int 0, .int 0])) (mIn K) 4 σ from inW_put) ?_
  refine g_aload_n (n := 49) hC rfl dX8_init_48 ?_
  refine g_sipush (n := 52) (v := nI 9300) hC (by decide) dX8_init_49 ?_
  refine g_newaI (N := 9300) (n := 54) hC rfl (by decide) (by exact gmem (i := 227) (by decide +kernel) (by decide +kernel)) dX8_init_52 ?_ (by exact ⟨Nat.le_of_ble_eq_true rfl, Nat.le_of_ble_eq_true rfl⟩)
  refine G.eqs (show _ = inW M (.inr (8, [.int 0, .int (nI 5), .int (nI 5), .int 0, .ref (M + 1 + 0), .ref (M + 1 + 1), .ref (M + 1 + 2), .ref (M + 1 + 3), .null, .null, .null, .null, .null, .null, .null, .null, .int 0, .int 0, .int 0, .int 0, .null, .null, .int 0, .int 0, .int 0, .null, .null, .int 0, .null, .int 0, .int 0, .int 0, .int 0])) (mIn K) 5 σ from inW_new rfl) ?_
  show G K Γ (M + 1 + 5, 5, 9767, ladd L (M + 1) 5) (inW M (.inr (8, [.int 0, .int (nI 5), .int (nI 5), .int 0, .ref (M + 1 + 0), .ref (M + 1 + 1), .ref (M + 1 + 2), .ref (M + 1 + 3), .null, .null, .null, .null, .null, .null, .null, .null, .int 0, .int 0, .int 0, .int 0, .null, .null, .int 0, .int 0, .int 0, .null, .null, .int 0, .null, .int 0, .int 0, .int 0, .int 0])) (mIn K) 5 σ) 54 [some (.ref M)] [.ref (M + 1 + 4), .ref M]
  refine g_putF (n := 57) hC gp_X8_29 rfl hoX8 (ladd_old hM _) inW_o dX8_init_54 ?_
  refine G.eqs (show _ = inW M (.inr (8, [.int 0, .int (nI 5), .int (nI 5), .int 0, .ref (M + 1 + 0), .ref (M + 1 + 1), .ref (M + 1 + 2), .ref (M + 1 + 3), .ref (M + 1 + 4), .null, .null, .null, .null, .null, .null, .null, .int 0, .int 0, .int 0, .int 0, .null, .null, .int 0, .int 0, .int 0, .null, .null, .int 0, .null, .int 0, .int 0, .int 0, .int 0])) (mIn K) 5 σ from inW_put) ?_
  refine g_aload_n (n := 58) hC rfl dX8_init_57 ?_
  refine g_sipush (n := 61) (v := nI 420) hC (by decide) dX8_init_58 ?_
  refine g_newaI (N := 420) (n := 63) hC rfl (by decide) (by exact gmem (i := 227) (by decide +kernel) (by decide +kernel)) dX8_init_61 ?_ (by exact ⟨Nat.le_of_ble_eq_true rfl, Nat.le_of_ble_eq_true rfl⟩)
  refine G.eqs (show _ = inW M (.inr (8, [.int 0, .int (nI 5), .int (nI 5), .int 0, .ref (M + 1 + 0), .ref (M + 1 + 1), .ref (M + 1 + 2), .ref (M + 1 + 3), .ref (M + 1 + 4), .null, .null, .null, .null, .null, .null, .null, .int 0, .int 0, .int 0, .int 0, .null, .null, .int 0, .int 0, .int 0, .null, .null, .int 0, .null, .int 0, .int 0, .int 0, .int 0])) (mIn K) 6 σ from inW_new rfl) ?_
  show G K Γ (M + 1 + 6, 6, 10187, ladd L (M + 1) 6) (inW M (.inr (8, [.int 0, .int (nI 5), .int (nI 5), .int 0, .ref (M + 1 + 0), .ref (M + 1 + 1), .ref (M + 1 + 2), .ref (M + 1 + 3), .ref (M + 1 + 4), .null, .null, .null, .null, .null, .null, .null, .int 0, .int 0, .int 0, .int 0, .null, .null, .int 0, .int 0, .int 0, .null, .null, .int 0, .null, .int 0, .int 0, .int 0, .int 0])) (mIn K) 6 σ) 63 [some (.ref M)] [.ref (M + 1 + 5), .ref M]
  refine g_putF (n := 66) hC gp_X8_32 rfl hoX8 (ladd_old hM _) inW_o dX8_init_63 ?_
  refine G.eqs (show _ = inW M (.inr (8, [.int 0, .int (nI 5), .int (nI 5), .int 0, .ref (M + 1 + 0), .ref (M + 1 + 1), .ref (M + 1 + 2), .ref (M + 1 + 3), .ref (M + 1 + 4), .ref (M + 1 + 5), .null, .null, .null, .null, .null, .null, .int 0, .int 0, .int 0, .int 0, .null, .null, .int 0, .int 0, .int 0, .null, .null, .int 0, .null, .int 0, .int 0, .int 0, .int 0])) (mIn K) 6 σ from inW_put) ?_
  refine g_aload_n (n := 67) hC rfl dX8_init_66 ?_
  refine g_sipush (n := 70) (v := nI 480) hC (by decide) dX8_init_67 ?_
  refine g_newaI (N := 480) (n := 72) hC rfl (by decide) (by exact gmem (i := 227) (by decide +kernel) (by decide +kernel)) dX8_init_70 ?_ (by exact ⟨Nat.le_of_ble_eq_true rfl, Nat.le_of_ble_eq_true rfl⟩)
  refine G.eqs (show _ = inW M (.inr (8, [.int 0, .int (nI 5), .int (nI 5), .int 0, .ref (M + 1 + 0), .ref (M + 1 + 1), .ref (M + 1 + 2), .ref (M + 1 + 3), .ref (M + 1 + 4), .ref (M + 1 + 5), .null, .null, .null, .null, .null, .null, .int 0, .int 0, .int 0, .int 0, .null, .null, .int 0, .int 0, .int 0, .null, .null, .int 0, .null, .int 0, .int 0, .int 0, .int 0])) (mIn K) 7 σ from inW_new rfl) ?_
  show G K Γ (M + 1 + 7, 7, 10667, ladd L (M + 1) 7) (inW M (.inr (8, [.int 0, .int (nI 5), .int (nI 5), .int 0, .ref (M + 1 + 0), .ref (M + 1 + 1), .ref (M + 1 + 2), .ref (M + 1 + 3), .ref (M + 1 + 4), .ref (M + 1 + 5), .null, .null, .null, .null, .null, .null, .int 0, .int 0, .int 0, .int 0, .null, .null, .int 0, .int 0, .int 0, .null, .null, .int 0, .null, .int 0, .int 0, .int 0, .int 0])) (mIn K) 7 σ) 72 [some (.ref M)] [.ref (M + 1 + 6), .ref M]
  refine g_putF (n := 75) hC gp_X8_35 rfl hoX8 (ladd_old hM _) inW_o dX8_init_72 ?_
  refine G.eqs (show _ = inW M (.inr (8, [.int 0, .int (nI 5), .int (nI 5), .int 0, .ref (M + 1 + 0), .ref (M + 1 + 1), .ref (M + 1 + 2), .ref (M + 1 + 3), .ref (M + 1 + 4), .ref (M + 1 + 5), .ref (M + 1 + 6), .null, .null, .null, .null, .null, .int 0, .int 0, .int 0, .int 0, .null, .null, .int 0, .int 0, .int 0, .null, .null, .int 0, .null, .int 0, .int 0, .int 0, .int 0])) (mIn K) 7 σ from inW_put) ?_
  refine g_aload_n (n := 76) hC rfl dX8_init_75 ?_
  refine g_sipush (n := 79) (v := nI 155) hC (by decide) dX8_init_76 ?_
  refine g_newaI (N := 155) (n := 81) hC rfl (by decide) (by exact gmem (i := 227) (by decide +kernel) (by decide +kernel)) dX8_init_79 ?_ (by exact ⟨Nat.le_of_ble_eq_true rfl, Nat.le_of_ble_eq_true rfl⟩)
  refine G.eqs (show _ = inW M (.inr (8, [.int 0, .int (nI 5), .int (nI 5), .int 0, .ref (M + 1 + 0), .ref (M + 1 + 1), .ref (M + 1 + 2), .ref (M + 1 + 3), .ref (M + 1 + 4), .ref (M + 1 + 5), .ref (M + 1 + 6), .null, .null, .null, .null, .null, .int 0, .int 0, .int 0, .int 0, .null, .null, .int 0, .int 0, .int 0, .null, .null, .int 0, .null, .int 0, .int 0, .int 0, .int 0])) (mIn K) 8 σ from inW_new rfl) ?_
  show G K Γ (M + 1 + 8, 8, 10822, ladd L (M + 1) 8) (inW M (.inr (8, [.int 0, .int (nI 5), .int (nI 5), .int 0, .ref (M + 1 + 0), .ref (M + 1 + 1), .ref (M + 1 + 2), .ref (M + 1 + 3), .ref (M + 1 + 4), .ref (M + 1 + 5), .ref (M + 1 + 6), .null, .null, .null, .null, .null, .int 0, .int 0, .int 0, .int 0, .null, .null, .int 0, .int 0, .int 0, .null, .null, .int 0, .null, .int 0, .int 0, .int 0, .int 0])) (mIn K) 8 σ) 81 [some (.ref M)] [.ref (M + 1 + 7), .ref M]
  refine g_putF (n := 84) hC gp_X8_38 rfl hoX8 (ladd_old hM _) inW_o dX8_init_81 ?_
  refine G.eqs (show _ = inW M (.inr (8, [.int 0, .int (nI 5), .int (nI 5), .int 0, .ref (M + 1 + 0), .ref (M + 1 + 1), .ref (M + 1 + 2), .ref (M + 1 + 3), .ref (M + 1 + 4), .ref (M + 1 + 5), .ref (M + 1 + 6), .ref (M + 1 + 7), .null, .null, .null, .null, .int 0, .int 0, .int 0, .int 0, .null, .null, .int 0, .int 0, .int 0, .null, .null, .int 0, .null, .int 0, .int 0, .int 0, .int 0])) (mIn K) 8 σ from inW_put) ?_
  refine g_aload_n (n := 85) hC rfl dX8_init_84 ?_
  refine g_sipush (n := 88) (v := nI 9300) hC (by decide) dX8_init_85 ?_
  refine g_newaI (N := 9300) (n := 90) hC rfl (by decide) (by exact gmem (i := 227) (by decide +kernel) (by decide +kernel)) dX8_init_88 ?_ (by exact ⟨Nat.le_of_ble_eq_true rfl, Nat.le_of_ble_eq_true rfl⟩)
  refine G.eqs (show _ = inW M (.inr (8, [.int 0, .int (nI 5), .int (nI 5), .int 0, .ref (M + 1 + 0), .ref (M + 1 + 1), .ref (M + 1 + 2), .ref (M + 1 + 3), .ref (M + 1 + 4), .ref (M + 1 + 5), .ref (M + 1 + 6), .ref (M + 1 + 7), .null, .null, .null, .null, .int 0, .int 0, .int 0, .int 0, .null, .null, .int 0, .int 0, .int 0, .null, .null, .int 0, .null, .int 0, .int 0, .int 0, .int 0])) (mIn K) 9 σ from inW_new rfl) ?_
  show G K Γ (M + 1 + 9, 9, 20122, ladd L (M + 1) 9) (inW M (.inr (8, [.int 0, .int (nI 5), .int (nI 5), .int 0, .ref (M + 1 + 0), .ref (M + 1 + 1), .ref (M + 1 + 2), .ref (M + 1 + 3), .ref (M + 1 + 4), .ref (M + 1 + 5), .ref (M + 1 + 6), .ref (M + 1 + 7), .null, .null, .null, .null, .int 0, .int 0, .int 0, .int 0, .null, .null, .int 0, .int 0, .int 0, .null, .null, .int 0, .null, .int 0, .int 0, .int 0, .int 0])) (mIn K) 9 σ) 90 [some (.ref M)] [.ref (M + 1 + 8), .ref M]
  refine g_putF (n := 93) hC gp_X8_41 rfl hoX8 (ladd_old hM _) inW_o dX8_init_90 ?_
  refine G.eqs (show _ = inW M (.inr (8, [.int 0, .int (nI 5), .int (nI 5), .int 0, .ref (M + 1 + 0), .ref (M + 1 + 1), .ref (M + 1 + 2), .ref (M + 1 + 3), .ref (M + 1 + 4), .ref (M + 1 + 5), .ref (M + 1 + 6), .ref (M + 1 + 7), .ref (M + 1 + 8), .null, .null, .null, .int 0, .int 0, .int 0, .int 0, .null, .null, .int 0, .int 0, .int 0, .null, .null, .int 0, .null, .int 0, .int 0, .int 0, .int 0])) (mIn K) 9 σ from inW_put) ?_
  refine g_aload_n (n := 94) hC rfl dX8_init_93 ?_
  refine g_sipush (n := 97) (v := nI 420) hC (by decide) dX8_init_94 ?_
  refine g_newaI (N := 420) (n := 99) hC rfl (by decide) (by exact gmem (i := 227) (by decide +kernel) (by decide +kernel)) dX8_init_97 ?_ (by exact ⟨Nat.le_of_ble_eq_true rfl, Nat.le_of_ble_eq_true rfl⟩)
  refine G.eqs (show _ = inW M (.inr (8, [.int 0, .int (nI 5), .int (nI 5), .int 0, .ref (M + 1 + 0), .ref (M + 1 + 1), .ref (M + 1 + 2), .ref (M + 1 + 3), .ref (M + 1 + 4), .ref (M + 1 + 5), .ref (M + 1 + 6), .ref (M + 1 + 7), .ref (M + 1 + 8), .null, .null, .null, .int 0, .int 0, .int 0, .int 0, .null, .null, .int 0, .int 0, .int 0, .null, .null, .int 0, .null, .int 0, .int 0, .int 0, .int 0])) (mIn K) 10 σ from inW_new rfl) ?_
  show G K Γ (M + 1 + 10, 10, 20542, ladd L (M + 1) 10) (inW M (.inr (8, [.int 0, .int (nI 5), .int (nI 5), .int 0, .ref (M + 1 + 0), .ref (M + 1 + 1), .ref (M + 1 + 2), .ref (M + 1 + 3), .ref (M + 1 + 4), .ref (M + 1 + 5), .ref (M + 1 + 6), .ref (M + 1 + 7), .ref (M + 1 + 8), .null, .null, .null, .int 0, .int 0, .int 0, .int 0, .null, .null, .int 0, .int 0, .int 0, .null, .null, .int 0, .null, .int 0, .int 0, .int 0, .int 0])) (mIn K) 10 σ) 99 [some (.ref M)] [.ref (M + 1 + 9), .ref M]
  refine g_putF (n := 102) hC gp_X8_44 rfl hoX8 (ladd_old hM _) inW_o dX8_init_99 ?_
  refine G.eqs (show _ = inW M (.inr (8, [.int 0, .int (nI 5), .int (nI 5), .int 0, .ref (M + 1 + 0), .ref (M + 1 + 1), .ref (M + 1 + 2), .ref (M + 1 + 3), .ref (M + 1 + 4), .ref (M + 1 + 5), .ref (M + 1 + 6), .ref (M + 1 + 7), .ref (M + 1 + 8), .ref (M + 1 + 9), .null, .null, .int 0, .int 0, .int 0, .int 0, .null, .null, .int 0, .int 0, .int 0, .null, .null, .int 0, .null, .int 0, .int 0, .int 0, .int 0])) (mIn K) 10 σ from inW_put) ?_
  refine g_aload_n (n := 103) hC rfl dX8_init_102 ?_
  refine g_sipush (n := 106) (v := nI 480) hC (by decide) dX8_init_103 ?_
  refine g_newaI (N := 480) (n := 108) hC rfl (by decide) (by exact gmem (i := 227) (by decide +kernel) (by decide +kernel)) dX8_init_106 ?_ (by exact ⟨Nat.le_of_ble_eq_true rfl, Nat.le_of_ble_eq_true rfl⟩)
  refine G.eqs (show _ = inW M (.inr (8, [.int 0, .int (nI 5), .int (nI 5), .int 0, .ref (M + 1 + 0), .ref (M + 1 + 1), .ref (M + 1 + 2), .ref (M + 1 + 3), .ref (M + 1 + 4), .ref (M + 1 + 5), .ref (M + 1 + 6), .ref (M + 1 + 7), .ref (M + 1 + 8), .ref (M + 1 + 9), .null, .null, .int 0, .int 0, .int 0, .int 0, .null, .null, .int 0, .int 0, .int 0, .null, .null, .int 0, .null, .int 0, .int 0, .int 0, .int 0])) (mIn K) 11 σ from inW_new rfl) ?_
  show G K Γ (M + 1 + 11, 11, 21022, ladd L (M + 1) 11) (inW M (.inr (8, [.int 0, .int (nI 5), .int (nI 5), .int 0, .ref (M + 1 + 0), .ref (M + 1 + 1), .ref (M + 1 + 2), .ref (M + 1 + 3), .ref (M + 1 + 4), .ref (M + 1 + 5), .ref (M + 1 + 6), .ref (M + 1 + 7), .ref (M + 1 + 8), .ref (M + 1 + 9), .null, .null, .int 0, .int 0, .int 0, .int 0, .null, .null, .int 0, .int 0, .int 0, .null, .null, .int 0, .null, .int 0, .int 0, .int 0, .int 0])) (mIn K) 11 σ) 108 [some (.ref M)] [.ref (M + 1 + 10), .ref M]
  refine g_putF (n := 111) hC gp_X8_47 rfl hoX8 (ladd_old hM _) inW_o dX8_init_108 ?_
  refine G.eqs (show _ = inW M (.inr (8, [.int 0, .int (nI 5), .int (nI 5), .int 0, .ref (M + 1 + 0), .ref (M + 1 + 1), .ref (M + 1 + 2), .ref (M + 1 + 3), .ref (M + 1 + 4), .ref (M + 1 + 5), .ref (M + 1 + 6), .ref (M + 1 + 7), .ref (M + 1 + 8), .ref (M + 1 + 9), .ref (M + 1 + 10), .null, .int 0, .int 0, .int 0, .int 0, .null, .null, .int 0, .int 0, .int 0, .null, .null, .int 0, .null, .int 0, .int 0, .int 0, .int 0])) (mIn K) 11 σ from inW_put) ?_
  refine g_aload_n (n := 112) hC rfl dX8_init_111 ?_
  refine g_iconst (n := 113) (v := nI 2) hC (by decide) dX8_init_112 ?_
  refine g_newaI (N := 2) (n := 115) hC rfl (by decide) (by exact gmem (i := 227) (by decide +kernel) (by decide +kernel)) dX8_init_113 ?_ (by exact ⟨Nat.le_of_ble_eq_true rfl, Nat.le_of_ble_eq_true rfl⟩)
  refine G.eqs (show _ = inW M (.inr (8, [.int 0, .int (nI 5), .int (nI 5), .int 0, .ref (M + 1 + 0), .ref (M + 1 + 1), .ref (M + 1 + 2), .ref (M + 1 + 3), .ref (M + 1 + 4), .ref (M + 1 + 5), .ref (M + 1 + 6), .ref (M + 1 + 7), .ref (M + 1 + 8), .ref (M + 1 + 9), .ref (M + 1 + 10), .null, .int 0, .int 0, .int 0, .int 0, .null, .null, .int 0, .int 0, .int 0, .null, .null, .int 0, .null, .int 0, .int 0, .int 0, .int 0])) (mIn K) 12 σ from inW_new rfl) ?_
  show G K Γ (M + 1 + 12, 12, 21024, ladd L (M + 1) 12) (inW M (.inr (8, [.int 0, .int (nI 5), .int (nI 5), .int 0, .ref (M + 1 + 0), .ref (M + 1 + 1), .ref (M + 1 + 2), .ref (M + 1 + 3), .ref (M + 1 + 4), .ref (M + 1 + 5), .ref (M + 1 + 6), .ref (M + 1 + 7), .ref (M + 1 + 8), .ref (M + 1 + 9), .ref (M + 1 + 10), .null, .int 0, .int 0, .int 0, .int 0, .null, .null, .int 0, .int 0, .int 0, .null, .null, .int 0, .null, .int 0, .int 0, .int 0, .int 0])) (mIn K) 12 σ) 115 [some (.ref M)] [.ref (M + 1 + 11), .ref M]
  refine g_putF (n := 118) hC gp_X8_50 rfl hoX8 (ladd_old hM _) inW_o dX8_init_115 ?_
  refine G.eqs (show _ = inW M (.inr (8, [.int 0, .int (nI 5), .int (nI 5), .int 0, .ref (M + 1 + 0), .ref (M + 1 + 1), .ref (M + 1 + 2), .ref (M + 1 + 3), .ref (M + 1 + 4), .ref (M + 1 + 5), .ref (M + 1 + 6), .ref (M + 1 + 7), .ref (M + 1 + 8), .ref (M + 1 + 9), .ref (M + 1 + 10), .ref (M + 1 + 11), .int 0, .int 0, .int 0, .int 0, .null, .null, .int 0, .int 0, .int 0, .null, .null, .int 0, .null, .int 0, .int 0, .int 0, .int 0])) (mIn K) 12 σ from inW_put) ?_
  refine g_aload_n (n := 119) hC rfl dX8_init_118 ?_
  refine g_bipush (n := 121) (v := nI 98) hC (by decide) dX8_init_119 ?_
  refine g_newaI (N := 98) (n := 123) hC rfl (by decide) (by exact gmem (i := 227) (by decide +kernel) (by decide +kernel)) dX8_init_121 ?_ (by exact ⟨Nat.le_of_ble_eq_true rfl, Nat.le_of_ble_eq_true rfl⟩)
  refine G.eqs (show _ = inW M (.inr (8, [.int 0, .int (nI 5), .int (nI 5), .int 0, .ref (M + 1 + 0), .ref (M + 1 + 1), .ref (M + 1 + 2), .ref (M + 1 + 3), .ref (M + 1 + 4), .ref (M + 1 + 5), .ref (M + 1 + 6), .ref (M + 1 + 7), .ref (M + 1 + 8), .ref (M + 1 + 9), .ref (M + 1 + 10), .ref (M + 1 + 11), .int 0, .int 0, .int 0, .int 0, .null, .null, .int 0, .int 0, .int 0, .null, .null, .int 0, .null, .int 0, .int 0, .int 0, .int 0])) (mIn K) 13 σ from inW_new rfl) ?_
  show G K Γ (M + 1 + 13, 13, 21122, ladd L (M + 1) 13) (inW M (.inr (8, [.int 0, .int (nI 5), .int (nI 5), .int 0, .ref (M + 1 + 0), .ref (M + 1 + 1), .ref (M + 1 + 2), .ref (M + 1 + 3), .ref (M + 1 + 4), .ref (M + 1 + 5), .ref (M + 1 + 6), .ref (M + 1 + 7), .ref (M + 1 + 8), .ref (M + 1 + 9), .ref (M + 1 + 10), .ref (M + 1 + 11), .int 0, .int 0, .int 0, .int 0, .null, .null, .int 0, .int 0, .int 0, .null, .null, .int 0, .null, .int 0, .int 0, .int 0, .int 0])) (mIn K) 13 σ) 123 [some (.ref M)] [.ref (M + 1 + 12), .ref M]
  refine g_putF (n := 126) hC gp_X8_53 rfl hoX8 (ladd_old hM _) inW_o dX8_init_123 ?_
  refine G.eqs (show _ = inW M (.inr (8, [.int 0, .int (nI 5), .int (nI 5), .int 0, .ref (M + 1 + 0), .ref (M + 1 + 1), .ref (M + 1 + 2), .ref (M + 1 + 3), .ref (M + 1 + 4), .ref (M + 1 + 5), .ref (M + 1 + 6), .ref (M + 1 + 7), .ref (M + 1 + 8), .ref (M + 1 + 9), .ref (M + 1 + 10), .ref (M + 1 + 11), .int 0, .int 0, .int 0, .int 0, .ref (M + 1 + 12), .null, .int 0, .int 0, .int 0, .null, .null, .int 0, .null, .int 0, .int 0, .int 0, .int 0])) (mIn K) 13 σ from inW_put) ?_
  refine g_aload_n (n := 127) hC rfl dX8_init_126 ?_
  refine g_bipush (n := 129) (v := nI 8) hC (by decide) dX8_init_127 ?_
  refine g_newaI (N := 8) (n := 131) hC rfl (by decide) (by exact gmem (i := 227) (by decide +kernel) (by decide +kernel)) dX8_init_129 ?_ (by exact ⟨Nat.le_of_ble_eq_true rfl, Nat.le_of_ble_eq_true rfl⟩)
  refine G.eqs (show _ = inW M (.inr (8, [.int 0, .int (nI 5), .int (nI 5), .int 0, .ref (M + 1 + 0), .ref (M + 1 + 1), .ref (M + 1 + 2), .ref (M + 1 + 3), .ref (M + 1 + 4), .ref (M + 1 + 5), .ref (M + 1 + 6), .ref (M + 1 + 7), .ref (M + 1 + 8), .ref (M + 1 + 9), .ref (M + 1 + 10), .ref (M + 1 + 11), .int 0, .int 0, .int 0, .int 0, .ref (M + 1 + 12), .null, .int 0, .int 0, .int 0, .null, .null, .int 0, .null, .int 0, .int 0, .int 0, .int 0])) (mIn K) 14 σ from inW_new rfl) ?_
  show G K Γ (M + 1 + 14, 14, 21130, ladd L (M + 1) 14) (inW M (.inr (8, [.int 0, .int (nI 5), .int (nI 5), .int 0, .ref (M + 1 + 0), .ref (M + 1 + 1), .ref (M + 1 + 2), .ref (M + 1 + 3), .ref (M + 1 + 4), .ref (M + 1 + 5), .ref (M + 1 + 6), .ref (M + 1 + 7), .ref (M + 1 + 8), .ref (M + 1 + 9), .ref (M + 1 + 10), .ref (M + 1 + 11), .int 0, .int 0, .int 0, .int 0, .ref (M + 1 + 12), .null, .int 0, .int 0, .int 0, .null, .null, .int 0, .null, .int 0, .int 0, .int 0, .int 0])) (mIn K) 14 σ) 131 [some (.ref M)] [.ref (M + 1 + 13), .ref M]
  refine g_putF (n := 134) hC gp_X8_56 rfl hoX8 (ladd_old hM _) inW_o dX8_init_131 ?_
  refine G.eqs (show _ = inW M (.inr (8, [.int 0, .int (nI 5), .int (nI 5), .int 0, .ref (M + 1 + 0), .ref (M + 1 + 1), .ref (M + 1 + 2), .ref (M + 1 + 3), .ref (M + 1 + 4), .ref (M + 1 + 5), .ref (M + 1 + 6), .ref (M + 1 + 7), .ref (M + 1 + 8), .ref (M + 1 + 9), .ref (M + 1 + 10), .ref (M + 1 + 11), .int 0, .int 0, .int 0, .int 0, .ref (M + 1 + 12), .ref (M + 1 + 13), .int 0, .int 0, .int 0, .null, .null, .int 0, .null, .int 0, .int 0, .int 0, .int 0])) (mIn K) 14 σ from inW_put) ?_
  refine g_aload_n (n := 135) hC rfl dX8_init_134 ?_
  refine g_iconst (n := 136) (v := nI 4) hC (by decide) dX8_init_135 ?_
  refine g_newaI (N := 4) (n := 138) hC rfl (by decide) (by exact gmem (i := 227) (by decide +kernel) (by decide +kernel)) dX8_init_136 ?_ (by exact ⟨Nat.le_of_ble_eq_true rfl, Nat.le_of_ble_eq_true rfl⟩)
  refine G.eqs (show _ = inW M (.inr (8, [.int 0, .int (nI 5), .int (nI 5), .int 0, .ref (M + 1 + 0), .ref (M + 1 + 1), .ref (M + 1 + 2), .ref (M + 1 + 3), .ref (M + 1 + 4), .ref (M + 1 + 5), .ref (M + 1 + 6), .ref (M + 1 + 7), .ref (M + 1 + 8), .ref (M + 1 + 9), .ref (M + 1 + 10), .ref (M + 1 + 11), .int 0, .int 0, .int 0, .int 0, .ref (M + 1 + 12), .ref (M + 1 + 13), .int 0, .int 0, .int 0, .null, .null, .int 0, .null, .int 0, .int 0, .int 0, .int 0])) (mIn K) 15 σ from inW_new rfl) ?_
  show G K Γ (M + 1 + 15, 15, 21134, ladd L (M + 1) 15) (inW M (.inr (8, [.int 0, .int (nI 5), .int (nI 5), .int 0, .ref (M + 1 + 0), .ref (M + 1 + 1), .ref (M + 1 + 2), .ref (M + 1 + 3), .ref (M + 1 + 4), .ref (M + 1 + 5), .ref (M + 1 + 6), .ref (M + 1 + 7), .ref (M + 1 + 8), .ref (M + 1 + 9), .ref (M + 1 + 10), .ref (M + 1 + 11), .int 0, .int 0, .int 0, .int 0, .ref (M + 1 + 12), .ref (M + 1 + 13), .int 0, .int 0, .int 0, .null, .null, .int 0, .null, .int 0, .int 0, .int 0, .int 0])) (mIn K) 15 σ) 138 [some (.ref M)] [.ref (M + 1 + 14), .ref M]
  refine g_putF (n := 141) hC gp_X8_59 rfl hoX8 (ladd_old hM _) inW_o dX8_init_138 ?_
  refine G.eqs (show _ = inW M (.inr (8, [.int 0, .int (nI 5), .int (nI 5), .int 0, .ref (M + 1 + 0), .ref (M + 1 + 1), .ref (M + 1 + 2), .ref (M + 1 + 3), .ref (M + 1 + 4), .ref (M + 1 + 5), .ref (M + 1 + 6), .ref (M + 1 + 7), .ref (M + 1 + 8), .ref (M + 1 + 9), .ref (M + 1 + 10), .ref (M + 1 + 11), .int 0, .int 0, .int 0, .int 0, .ref (M + 1 + 12), .ref (M + 1 + 13), .int 0, .int 0, .int 0, .ref (M + 1 + 14), .null, .int 0, .null, .int 0, .int 0, .int 0, .int 0])) (mIn K) 15 σ from inW_put) ?_
  refine g_aload_n (n := 142) hC rfl dX8_init_141 ?_
  refine g_iconst (n := 143) (v := nI 4) hC (by decide) dX8_init_142 ?_
  refine g_newaI (N := 4) (n := 145) hC rfl (by decide) (by exact gmem (i := 227) (by decide +kernel) (by decide +kernel)) dX8_init_143 ?_ (by exact ⟨Nat.le_of_ble_eq_true rfl, Nat.le_of_ble_eq_true rfl⟩)
  refine G.eqs (show _ = inW M (.inr (8, [.int 0, .int (nI 5), .int (nI 5), .int 0, .ref (M + 1 + 0), .ref (M + 1 + 1), .ref (M + 1 + 2), .ref (M + 1 + 3), .ref (M + 1 + 4), .ref (M + 1 + 5), .ref (M + 1 + 6), .ref (M + 1 + 7), .ref (M + 1 + 8), .ref (M + 1 + 9), .ref (M + 1 + 10), .ref (M + 1 + 11), .int 0, .int 0, .int 0, .int 0, .ref (M + 1 + 12), .ref (M + 1 + 13), .int 0, .int 0, .int 0, .ref (M + 1 + 14), .null, .int 0, .null, .int 0, .int 0, .int 0, .int 0])) (mIn K) 16 σ from inW_new rfl) ?_
  show G K Γ (M + 1 + 16, 16, 21138, ladd L (M + 1) 16) (inW M (.inr (8, [.int 0, .int (nI 5), .int (nI 5), .int 0, .ref (M + 1 + 0), .ref (M + 1 + 1), .ref (M + 1 + 2), .ref (M + 1 + 3), .ref (M + 1 + 4), .ref (M + 1 + 5), .ref (M + 1 + 6), .ref (M + 1 + 7), .ref (M + 1 + 8), .ref (M + 1 + 9), .ref (M + 1 + 10), .ref (M + 1 + 11), .int 0, .int 0, .int 0, .int 0, .ref (M + 1 + 12), .ref (M + 1 + 13), .int 0, .int 0, .int 0, .ref (M + 1 + 14), .null, .int 0, .null, .int 0, .int 0, .int 0, .int 0])) (mIn K) 16 σ) 145 [some (.ref M)] [.ref (M + 1 + 15), .ref M]
  refine g_putF (n := 148) hC gp_X8_62 rfl hoX8 (ladd_old hM _) inW_o dX8_init_145 ?_
  refine G.eqs (show _ = inW M (.inr (8, [.int 0, .int (nI 5), .int (nI 5), .int 0, .ref (M + 1 + 0), .ref (M + 1 + 1), .ref (M + 1 + 2), .ref (M + 1 + 3), .ref (M + 1 + 4), .ref (M + 1 + 5), .ref (M + 1 + 6), .ref (M + 1 + 7), .ref (M + 1 + 8), .ref (M + 1 + 9), .ref (M + 1 + 10), .ref (M + 1 + 11), .int 0, .int 0, .int 0, .int 0, .ref (M + 1 + 12), .ref (M + 1 + 13), .int 0, .int 0, .int 0, .ref (M + 1 + 14), .ref (M + 1 + 15), .int 0, .null, .int 0, .int 0, .int 0, .int 0])) (mIn K) 16 σ from inW_put) ?_
  refine g_aload_n (n := 149) hC rfl dX8_init_148 ?_
  refine g_bipush (n := 151) (v := nI 80) hC (by decide) dX8_init_149 ?_
  refine g_newaC (N := 80) (n := 153) hC rfl (by decide) (by exact gmem (i := 249) (by decide +kernel) (by decide +kernel)) dX8_init_151 ?_ (by exact ⟨Nat.le_of_ble_eq_true rfl, Nat.le_of_ble_eq_true rfl⟩)
  refine G.eqs (show _ = inW M (.inr (8, [.int 0, .int (nI 5), .int (nI 5), .int 0, .ref (M + 1 + 0), .ref (M + 1 + 1), .ref (M + 1 + 2), .ref (M + 1 + 3), .ref (M + 1 + 4), .ref (M + 1 + 5), .ref (M + 1 + 6), .ref (M + 1 + 7), .ref (M + 1 + 8), .ref (M + 1 + 9), .ref (M + 1 + 10), .ref (M + 1 + 11), .int 0, .int 0, .int 0, .int 0, .ref (M + 1 + 12), .ref (M + 1 + 13), .int 0, .int 0, .int 0, .ref (M + 1 + 14), .ref (M + 1 + 15), .int 0, .null, .int 0, .int 0, .int 0, .int 0])) (mIn K) 17 σ from inW_new rfl) ?_
  show G K Γ (M + 1 + 17, 17, 21218, ladd L (M + 1) 17) (inW M (.inr (8, [.int 0, .int (nI 5), .int (nI 5), .int 0, .ref (M + 1 + 0), .ref (M + 1 + 1), .ref (M + 1 + 2), .ref (M + 1 + 3), .ref (M + 1 + 4), .ref (M + 1 + 5), .ref (M + 1 + 6), .ref (M + 1 + 7), .ref (M + 1 + 8), .ref (M + 1 + 9), .ref (M + 1 + 10), .ref (M + 1 + 11), .int 0, .int 0, .int 0, .int 0, .ref (M + 1 + 12), .ref (M + 1 + 13), .int 0, .int 0, .int 0, .ref (M + 1 + 14), .ref (M + 1 + 15), .int 0, .null, .int 0, .int 0, .int 0, .int 0])) (mIn K) 17 σ) 153 [some (.ref M)] [.ref (M + 1 + 16), .ref M]
  refine g_putF (n := 156) hC gp_X8_65 rfl hoX8 (ladd_old hM _) inW_o dX8_init_153 ?_
  refine G.eqs (show _ = inW M (.inr (8, [.int 0, .int (nI 5), .int (nI 5), .int 0, .ref (M + 1 + 0), .ref (M + 1 + 1), .ref (M + 1 + 2), .ref (M + 1 + 3), .ref (M + 1 + 4), .ref (M + 1 + 5), .ref (M + 1 + 6), .ref (M + 1 + 7), .ref (M + 1 + 8), .ref (M + 1 + 9), .ref (M + 1 + 10), .ref (M + 1 + 11), .int 0, .int 0, .int 0, .int 0, .ref (M + 1 + 12), .ref (M + 1 + 13), .int 0, .int 0, .int 0, .ref (M + 1 + 14), .ref (M + 1 + 15), .int 0, .ref (M + 1 + 16), .int 0, .int 0, .int 0, .int 0])) (mIn K) 17 σ from inW_put) ?_
  refine g_aload_n (n := 157) hC rfl dX8_init_156 ?_
  refine g_iconst (n := 158) (v := nI 0) hC (by decide) dX8_init_157 ?_
  refine G.eqs (show _ = mdl K M sc0 ar0 σ from in_mdl) ?_
  have hD : mdom M (ladd L (M + 1) 17) := fun j hj => by
    rcases j with _ | j
    · exact ladd_old hM _
    · rw [show M + (j + 1) = M + 1 + j by omega]; exact ladd_new 17 (by omega)
  refine g_cVv (n := 161) hC gv_X8_69 (hD 0 (by decide)) mdl_0 (M_begins K hD (w := 5) (h := 5) (k := 0) ⟨rfl, rfl, by decide, by decide, by decide, by decide⟩ (by decide)) dX8_init_158 ?_
  exact g_vret hC dX8_init_161 ⟨rfl, rfl, rfl, rfl⟩
