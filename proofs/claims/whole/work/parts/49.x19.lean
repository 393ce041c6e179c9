/-! ===== the class: games are made ===== -/
theorem G.eqo {K : GK} {Γ : GX} {ω ω1 : GO} {σ : GS} {pc : Nat} {ll : List (Option Value)} {st : List Value} (e : ω = ω1) (k : G K Γ ω1 σ pc ll st) : G K Γ ω σ pc ll st := e ▸ k
theorem ladd_in {L : List Nat} {z k x : Nat} (h1 : z ≤ x) (h2 : x < z + k) : x ∈ ladd L z k := by
  have h := ladd_new (L := L) (z := z) (i := x - z) k (by omega)
  rw [show z + (x - z) = x by omega] at h
  exact h
theorem ladd_mono {L : List Nat} {z k m b : Nat} (h : b ∈ ladd L z k) (hkm : k ≤ m) : b ∈ ladd L z m := by
  induction m with
  | zero => rw [Nat.le_zero.mp hkm] at h; exact h
  | succ m ih =>
    by_cases e : k = m + 1
    · rw [e] at h; exact h
    · exact List.mem_append_left _ (ih (by omega))
theorem gm_eq {K : GK} {L : List Nat} {σ σ1 : GS} {g b : Nat} {ru : Int32} {pl : Nat} {x y : Int32} {D : Nat → RD} (he : ∀ a, g ≤ a → a < g + 245 → a ≠ g + 1 → σ1 a = σ a) (hG : gmI K L σ g b ru pl x y D) : gmI K L σ1 g b ru pl x y D := by
  obtain ⟨hm, s0, s2, s3, s4, hd9⟩ := hG
  exact ⟨hm, by rw [he _ (by omega) (by omega) (by omega)]; exact s0, by rw [he _ (by omega) (by omega) (by omega)]; exact s2, by rw [he _ (by omega) (by omega) (by omega)]; exact s3, by rw [he _ (by omega) (by omega) (by omega)]; exact s4, fun r hr => rdD_eq (fun b hb1 hb2 => he b (by omega) (by omega) (by omega)) (hd9 r hr)⟩
theorem gm_mono {K : GK} {L L' : List Nat} {σ : GS} {g b : Nat} {ru : Int32} {pl : Nat} {x y : Int32} {D : Nat → RD} (hL : ∀ a, a ∈ L → a ∈ L') (hG : gmI K L σ g b ru pl x y D) : gmI K L' σ g b ru pl x y D := by
  obtain ⟨⟨m0, m2, m3, m4, mb⟩, s0, s2, s3, s4, hd9⟩ := hG
  exact ⟨⟨hL _ m0, hL _ m2, hL _ m3, hL _ m4, hL _ mb⟩, s0, s2, s3, s4, fun r hr => rdD_mono hL (hd9 r hr)⟩
def rdsI (a i : Nat) : Nat → Option Nat := fun r => if r < i then some (a + 5 + 4 * r) else none
theorem rdsI_s {a i : Nat} : va_up (rdsI a i) i (some (a + 5 + 4 * i)) = rdsI a (i + 1) := by
  funext r
  by_cases e : r = i
  · subst e; rw [va_up_self, rdsI, if_pos (by omega)]
  · rw [va_up_ne _ _ e]
    simp only [rdsI]
    by_cases h : r < i
    · rw [if_pos h, if_pos (show r < i + 1 by omega)]
    · rw [if_neg h, if_neg (show ¬ r < i + 1 by omega)]
def gnI (K : GK) (L : List Nat) (a : Nat) (σ σ9 : GS) (i : Nat) : Prop := σ9 a = .inr (2, [.ref (a + 1), .int (nI 0), .int 0, .ref (a + 2), .ref (a + 3), .int 0, .int 0]) ∧ σ9 (a + 1) = bdA 5 5 ∧ σ9 (a + 2) = rA K 60 (rdsI a i) ∧ σ9 (a + 3) = .inr (4, [.ref (a + 3 + 1), .int 0, .int 0]) ∧ σ9 (a + 3 + 1) = lA K 6 (fun _ => 0) ∧ (∀ r, r < i → rdD K (ladd L (a + 1) (4 + 4 * i)) σ9 (a + 5 + 4 * r) d0R) ∧ ∀ b, b < a ∨ a + 4 + 4 * i < b → σ9 b = σ b
theorem gn_step {K : GK} {L : List Nat} {a i : Nat} {σ σ9 σ8 : GS} {w0 : va_E} (hI : gnI K L a σ σ9 i) (hr : rdD K (ladd L (a + 1) (4 + 4 * (i + 1))) σ8 (a + 5 + 4 * i) d0R) (hf : ∀ b, b < a + 5 + 4 * i ∨ a + 5 + 4 * i + 3 < b → σ8 b = va_up σ9 (a + 5 + 4 * i) w0 b) : gnI K L a σ (va_up σ8 (a + 2) (rA K 60 (va_up (rdsI a i) i (some (a + 5 + 4 * i))))) (i + 1) := by
  obtain ⟨h0, h1, h2, h3, h4, h5, h6⟩ := hI
  have hz : ∀ b, b ≠ a + 2 → (b < a + 5 + 4 * i ∨ a + 5 + 4 * i + 3 < b) → va_up σ8 (a + 2) (rA K 60 (va_up (rdsI a i) i (some (a + 5 + 4 * i)))) b = σ9 b := fun b e1 e2 => by rw [va_up_ne _ _ e1, hf b e2, va_up_ne _ _ (by omega)]
  refine ⟨by rw [hz _ (by omega) (by omega)]; exact h0, by rw [hz _ (by omega) (by omega)]; exact h1, by rw [va_up_self, rdsI_s], by rw [hz _ (by omega) (by omega)]; exact h3, by rw [hz _ (by omega) (by omega)]; exact h4, fun r hr9 => ?_, fun b hb => by rw [hz b (by omega) (by omega)]; exact h6 b (by omega)⟩
  by_cases e : r = i
  · subst e
    exact rdD_eq (fun b hb1 hb2 => va_up_ne _ _ (by omega)) hr
  · exact rdD_eq (fun b hb1 hb2 => hz b (by omega) (by omega)) (rdD_mono (fun b hb => ladd_mono hb (by omega)) (h5 r (by omega)))
/-- the data of a new game -/
def newD : Nat → RD := fun r => if r = 60 then (fun _ => 0, 0, fun _ => 0, psS 25 (fun _ => nI 0)) else d0R
theorem gn_end {K : GK} {L : List Nat} {a : Nat} {σ σ9 : GS} (hI : gnI K L a σ σ9 60) (ha : a ∈ L) : gmI K (ladd L (a + 1) 244) (psU K σ9 (a + 3) 25 (fun _ => nI 0)) a (a + 1) 0 0 0 0 newD ∧ psU K σ9 (a + 3) 25 (fun _ => nI 0) (a + 1) = bdA 5 5 ∧ ∀ b, b < a ∨ a + 244 < b → psU K σ9 (a + 3) 25 (fun _ => nI 0) b = σ b := by
  obtain ⟨h0, h1, h2, h3, h4, h5, h6⟩ := hI
  refine ⟨⟨⟨ladd_old ha _, ladd_in (by omega) (by omega), ladd_in (by omega) (by omega), ladd_in (by omega) (by omega), ladd_in (by omega) (by omega)⟩, ?_, ?_, ?_, ?_, fun r hr => ?_⟩, ?_, fun b hb => ?_⟩
  · rw [psU_at (by omega), h0, gmO, nI_0]
  · rw [psU_at (by omega), h2]; rfl
  · rw [psU_a, psO, nI_0]; rfl
  · rw [psU_b]; rfl
  · rw [show newD r = d0R from if_neg (by omega)]
    exact rdD_eq (fun b hb1 hb2 => psU_at (by omega)) (h5 r hr)
  · rw [psU_at (by omega)]; exact h1
  · rw [psU_at (by omega)]; exact h6 b (by omega)

set_option maxRecDepth 20000 in
set_option maxHeartbeats 4000000 in
theorem X_newGame (K : GK) {σ : GS} {L : List Nat} {a : Nat} (m0 : a ∈ L) (s0 : σ a = .inr (2, [.null, .int 0, .int 0, .null, .null, .int 0, .int 0])) : gM K yX2_init cX2_init 2 none 3 244 1516 [.ref a] (a + 1) L σ (fun r z1 L1 σ2 => r = none ∧ z1 = a + 245 ∧ L1 = ladd L (a + 1) 244 ∧ (gmI K L1 σ2 a (a + 1) 0 0 0 0 newD ∧ σ2 (a + 1) = bdA 5 5 ∧ ∀ b, b < a ∨ a + 244 < b → σ2 b = σ b)) := by
  refine g_intro [some (.ref a), none] (fun Γ hC => ?_) (by simp [g_en, lv_args, Value.category])
  show G K Γ (a + 1, 0, 0, ladd L (a + 1) 0) (σ) 0 [some (.ref a), none] []
  refine g_aload_n (n := 1) hC rfl dX2_init_0 ?_
  refine g_objI (n := 4) hC (by exact gmem (i := 79) (by decide +kernel) (by decide +kernel)) dX2_init_1 ?_
  refine g_aload_n (n := 5) hC rfl dX2_init_4 ?_
  refine g_new (n := 8) hC gn_X2_9 dX2_init_5 ?_ (by exact ⟨Nat.le_of_ble_eq_true rfl, Nat.le_of_ble_eq_true rfl⟩)
  show G K Γ (a + 2, 1, 7, ladd L (a + 1) 1) (va_up (σ) (a + 1) (.inr (0, [.int 0, .int 0, .int 0, .long 0, .long 0, .long 0, .long 0]))) 8 [some (.ref a), none] [.ref (a + 1), .ref a]
  refine g_dup (n := 9) hC rfl dX2_init_8 ?_
  refine g_iconst (n := 10) (v := (nI 5)) hC (by decide) dX2_init_9 ?_
  refine g_iconst (n := 11) (v := (nI 5)) hC (by decide) dX2_init_10 ?_
  refine g_callI (rt2 := none) hC gi_X2_11 (X_newBoard K (w := 5) (h := 5) (by exact ladd_new (i := 0) 1 (by decide)) (va_up_self _ _ _) (by decide) (by decide) (by decide) (by decide)) (by decide) (by decide) rfl (by rfl) (by exact Nat.le_of_ble_eq_true rfl) (by exact ⟨Nat.le_of_ble_eq_true rfl, Nat.le_of_ble_eq_true rfl⟩) dX2_init_11 (fun rv9 z9 L9 σ9 hp9 => ?_)
  obtain ⟨rfl, rfl, rfl, rfl⟩ := hp9
  refine G.eqs (show _ = va_up σ (a + 1) (bdA 5 5) from bx_uu _ _ _ _) ?_
  show G K Γ (a + 2, 1, 7, ladd L (a + 1) 1) (va_up σ (a + 1) (bdA 5 5)) 14 [some (.ref a), none] [.ref (a + 1), .ref a]
  refine g_putf (n := 17) hC gp_X2_14 ((ladd_old m0 _)) (((va_up_ne _ _ (by omega)).trans s0)) dX2_init_14 ?_
  refine G.eqs (show _ = va_up (va_up σ (a + 1) (bdA 5 5)) a (.inr (2, [.ref (a + 1), .int 0, .int 0, .null, .null, .int 0, .int 0])) from rfl) ?_
  refine g_aload_n (n := 18) hC rfl dX2_init_17 ?_
  refine g_iconst (n := 19) (v := (nI 0)) hC (by decide) dX2_init_18 ?_
  refine g_putf (n := 22) hC gp_X2_20 ((ladd_old m0 _)) (va_up_self _ _ _) dX2_init_19 ?_
  refine G.eqs (show _ = va_up (va_up σ (a + 1) (bdA 5 5)) a (.inr (2, [.ref (a + 1), .int (nI 0), .int 0, .null, .null, .int 0, .int 0])) from bx_uu _ _ _ _) ?_
  refine g_aload_n (n := 23) hC rfl dX2_init_22 ?_
  refine g_bipush (n := 25) (v := (nI 60)) hC (by decide) dX2_init_23 ?_
  refine g_anew (N := 60) (n := 28) hC rfl (by decide) (by exact gmem (i := 120) (by decide +kernel) (by decide +kernel)) dX2_init_25 ?_ (by exact ⟨Nat.le_of_ble_eq_true rfl, Nat.le_of_ble_eq_true rfl⟩)
  show G K Γ (a + 3, 2, 67, ladd L (a + 1) 2) (va_up (va_up (va_up σ (a + 1) (bdA 5 5)) a (.inr (2, [.ref (a + 1), .int (nI 0), .int 0, .null, .null, .int 0, .int 0]))) (a + 2) (rA K 60 (fun _ => none))) 28 [some (.ref a), none] [.ref (a + 2), .ref a]
  refine g_putF (n := 31) hC gp_X2_26 rfl hoX2 ((ladd_old m0 _)) ((va_up_ne _ _ (by omega)).trans (va_up_self _ _ _)) dX2_init_28 ?_
  refine G.eqs (show _ = va_up (va_up (va_up (va_up σ (a + 1) (bdA 5 5)) a (.inr (2, [.ref (a + 1), .int (nI 0), .int 0, .null, .null, .int 0, .int 0]))) (a + 2) (rA K 60 (fun _ => none))) a (.inr (2, [.ref (a + 1), .int (nI 0), .int 0, .ref (a + 2), .null, .int 0, .int 0])) from rfl) ?_
  refine g_aload_n (n := 32) hC rfl dX2_init_31 ?_
  refine g_new (n := 35) hC gn_X2_30 dX2_init_32 ?_ (by exact ⟨Nat.le_of_ble_eq_true rfl, Nat.le_of_ble_eq_true rfl⟩)
  show G K Γ (a + 4, 3, 70, ladd L (a + 1) 3) (va_up (va_up (va_up (va_up (va_up σ (a + 1) (bdA 5 5)) a (.inr (2, [.ref (a + 1), .int (nI 0), .int 0, .null, .null, .int 0, .int 0]))) (a + 2) (rA K 60 (fun _ => none))) a (.inr (2, [.ref (a + 1), .int (nI 0), .int 0, .ref (a + 2), .null, .int 0, .int 0]))) (a + 3) (.inr (4, [.null, .int 0, .int 0]))) 35 [some (.ref a), none] [.ref (a + 3), .ref a]
  refine g_dup (n := 36) hC rfl dX2_init_35 ?_
  refine g_callIN (rt2 := none) hC gi_X2_32 (X_newPos K (by exact ladd_new (i := 2) 3 (by decide)) (va_up_self _ _ _)) (by decide) (by decide) rfl (by rfl) (by exact Nat.le_of_ble_eq_true rfl) (by exact ⟨Nat.le_of_ble_eq_true rfl, Nat.le_of_ble_eq_true rfl⟩) dX2_init_36 (fun rv9 z9 L9 σ8 hp9 => ?_)
  obtain ⟨rfl, rfl, rfl, hf_σ8⟩ := hp9
  obtain ⟨p1, p2, p3⟩ := hf_σ8
  have c0 : σ8 a = _ := (p3 _ (by omega)).trans ((va_up_ne _ _ (by omega)).trans (va_up_self _ _ _))
  have c1 : σ8 (a + 1) = _ := (p3 _ (by omega)).trans ((va_up_ne _ _ (by omega)).trans ((va_up_ne _ _ (by omega)).trans ((va_up_ne _ _ (by omega)).trans ((va_up_ne _ _ (by omega)).trans (va_up_self _ _ _)))))
  have c2 : σ8 (a + 2) = _ := (p3 _ (by omega)).trans ((va_up_ne _ _ (by omega)).trans ((va_up_ne _ _ (by omega)).trans (va_up_self _ _ _)))
  show G K Γ (a + 5, 4, 76, ladd L (a + 1) 4) (σ8) 39 [some (.ref a), none] [.ref (a + 3), .ref a]
  refine g_putF (n := 42) hC gp_X2_33 rfl hoX2 ((ladd_old m0 _)) (c0) dX2_init_39 ?_
  refine G.eqs (show _ = va_up (σ8) a (.inr (2, [.ref (a + 1), .int (nI 0), .int 0, .ref (a + 2), .ref (a + 3), .int 0, .int 0])) from rfl) ?_
  refine g_iconst (n := 43) (v := (nI 0)) hC (by decide) dX2_init_42 ?_
  refine g_istore_n (n := 44) (ll1 := [some (.ref a), some (.int (nI 0))]) hC dX2_init_43 rfl ?_
  have lp44 : ∀ (n9 : Nat) (i : Nat) (σ9 : GS) (hi : i ≤ 60) (hI : gnI K L a σ σ9 i) (y1 : Int32) (ey1 : y1 = (nI i)) (hm9 : 60 - i < n9), G K Γ (a + 5 + 4 * i, 4 + 4 * i, 76 + 24 * i, ladd L (a + 1) (4 + 4 * i)) (σ9) 44 [some (.ref a), some (.int y1)] [] := by
    intro n9
    induction n9 with
    | zero =>
      intro i σ9 hi hI y1 ey1 hm9
      exact absurd hm9 (Nat.not_lt_zero _)
    | succ n9 ih44 =>
      intro i σ9 hi hI y1 ey1 hm9
      subst ey1
      refine g_iload_n (n := 45) hC rfl dX2_init_44 ?_
      refine g_aload_n (n := 46) hC rfl dX2_init_45 ?_
      refine g_getf (n := 49) (v := .ref (a + 2)) hC gf_X2_26 ((ladd_old m0 _)) (hI.1) rfl dX2_init_46 ?_
      refine g_alen (n := 50) (t0 := 3) hC ((ladd_in (by omega) (by omega))) (hI.2.2.1) rfl dX2_init_49 ?_
      refine g_icmp_geN (n := 53) (tgt := 72) hC (by omega) (by omega) dX2_init_50 (fun h50 => ?_) (fun h50 => ?_)
      ·
        refine g_aload_n (n := 73) hC rfl dX2_init_72 ?_
        refine g_getf (n := 76) (v := .ref (a + 3)) hC gf_X2_33 ((ladd_old m0 _)) (hI.1) rfl dX2_init_73 ?_
        refine g_aload_n (n := 77) hC rfl dX2_init_76 ?_
        refine g_getf (n := 80) (v := .ref (a + 1)) hC gf_X2_14 ((ladd_old m0 _)) (hI.1) rfl dX2_init_77 ?_
        refine g_getf (n := 83) (v := .long (allF 25)) hC gf_X2_38 ((ladd_in (by omega) (by omega))) (hI.2.1) rfl dX2_init_80 ?_
        obtain rfl : i = 60 := by omega
        show G K Γ (a + 5 + 4 * 60, 4 + 4 * 60, 76 + 24 * 60, ladd L (a + 1) (4 + 4 * 60)) (σ9) 83 [some (.ref a), some (.int (nI 60))] [.long (allF 25), .ref (a + 3)]
        refine g_cVv (n := 86) hC gv_X2_42 ((ladd_in (by omega) (by omega))) (hI.2.2.2.1) (X_clear K (a := a + 3) (n := 25) (ladd_in (by omega) (by omega)) (ladd_in (by omega) (by omega)) hI.2.2.2.1 hI.2.2.2.2.1 (fun _ _ => rfl) (x := allF 25) rfl) dX2_init_83 ?_
        exact g_vret hC dX2_init_86 (⟨rfl, rfl, rfl, gn_end hI m0⟩)
      ·
        refine g_aload_n (n := 54) hC rfl dX2_init_53 ?_
        refine g_getf (n := 57) (v := .ref (a + 2)) hC gf_X2_26 ((ladd_old m0 _)) (hI.1) rfl dX2_init_54 ?_
        refine g_iload_n (n := 58) hC rfl dX2_init_57 ?_
        refine g_new (n := 61) hC gn_X2_24 dX2_init_58 ?_ (by exact ⟨(by omega : 4 + 4 * i + 1 ≤ 244), (by omega : 76 + 24 * i + 7 ≤ 1516)⟩)
        refine G.eqo (show _ = (a + 5 + 4 * i + 1, 5 + 4 * i, 83 + 24 * i, ladd L (a + 1) (5 + 4 * i)) from by
            show (a + 5 + 4 * i + 1, 4 + 4 * i + 1, 76 + 24 * i + 7, ladd L (a + 1) (4 + 4 * i) ++ [a + 5 + 4 * i]) = _
            rw [show 4 + 4 * i + 1 = 5 + 4 * i by omega, show 76 + 24 * i + 7 = 83 + 24 * i by omega, show ladd L (a + 1) (5 + 4 * i) = ladd L (a + 1) (4 + 4 * i) ++ [a + 5 + 4 * i] from by rw [show 5 + 4 * i = (4 + 4 * i) + 1 by omega, ladd, show a + 1 + (4 + 4 * i) = a + 5 + 4 * i by omega]]) ?_
        show G K Γ (a + 5 + 4 * i + 1, 5 + 4 * i, 83 + 24 * i, ladd L (a + 1) (5 + 4 * i)) (va_up σ9 (a + 5 + 4 * i) (.inr (6, [.int 0, .int 0, .int 0, .int 0, .null, .long 0, .null]))) 61 [some (.ref a), some (.int (nI i))] [.ref (a + 5 + 4 * i), .int (nI i), .ref (a + 2)]
        refine g_dup (n := 62) hC rfl dX2_init_61 ?_
        refine g_callIN (rt2 := none) hC gi_X2_37 (X_newRd K (L := ladd L (a + 1) (5 + 4 * i)) (a := a + 5 + 4 * i) (ladd_in (by omega) (by omega)) (va_up_self _ _ _)) (by decide) (by decide) rfl (by rfl) (by exact Nat.le_of_ble_eq_true rfl) (by exact ⟨(by omega : 5 + 4 * i + 3 ≤ 244), (by omega : 83 + 24 * i + 17 ≤ 1516)⟩) dX2_init_62 (fun rv9 z9 L9 σ8 hp9 => ?_)
        obtain ⟨rfl, rfl, rfl, hr8, hf8⟩ := hp9
        have hla : ladd (ladd L (a + 1) (5 + 4 * i)) (a + 5 + 4 * i + 1) 3 = ladd L (a + 1) (4 + 4 * (i + 1)) := by rw [show a + 5 + 4 * i + 1 = a + 1 + (5 + 4 * i) by omega, ladd_ladd, show 5 + 4 * i + 3 = 4 + 4 * (i + 1) by omega]
        rw [hla] at hr8
        refine G.eqo (show _ = (a + 5 + 4 * (i + 1), 4 + 4 * (i + 1), 76 + 24 * (i + 1), ladd L (a + 1) (4 + 4 * (i + 1))) from by
            show (a + 5 + 4 * i + 4, 5 + 4 * i + 3, 83 + 24 * i + 17, ladd (ladd L (a + 1) (5 + 4 * i)) (a + 5 + 4 * i + 1) 3) = _
            rw [hla, show a + 5 + 4 * i + 4 = a + 5 + 4 * (i + 1) by omega, show 5 + 4 * i + 3 = 4 + 4 * (i + 1) by omega, show 83 + 24 * i + 17 = 76 + 24 * (i + 1) by omega]) ?_
        show G K Γ (a + 5 + 4 * (i + 1), 4 + 4 * (i + 1), 76 + 24 * (i + 1), ladd L (a + 1) (4 + 4 * (i + 1))) (σ8) 65 [some (.ref a), some (.int (nI i))] [.ref (a + 5 + 4 * i), .int (nI i), .ref (a + 2)]
        refine g_aast (n := 66) hC (ladd_in (by omega) (by omega)) ((hf8 _ (by omega)).trans ((va_up_ne _ _ (by omega)).trans hI.2.2.1)) (by omega) (by decide) hr8.1.1 hr8.2.1 dX2_init_65 ?_
        refine g_iinc (n := 69) (ll1 := [some (.ref a), some (.int (nI (i + 1)))]) hC dX2_init_66 rfl (nI_inc _) rfl ?_
        refine g_goto (n := 44) hC dX2_init_69 ?_
        exact ih44 (i + 1) (va_up σ8 (a + 2) (rA K 60 (va_up (rdsI a i) i (some (a + 5 + 4 * i))))) (by omega) (by first | exact gn_step hI hr8 hf8 | exact ⟨va_up_self _ _ _, by rw [va_up_ne _ _ (by omega)]; exact c1, by rw [va_up_ne _ _ (by omega)]; exact c2, by rw [va_up_ne _ _ (by omega)]; exact p1, by rw [va_up_ne _ _ (by omega)]; exact p2, fun r hr => absurd hr (Nat.not_lt_zero _), fun b hb => by rw [va_up_ne _ _ (by omega), p3 b (by omega)]; (repeat rw [va_up_ne _ _ (by omega)])⟩) _ (by first | rfl | (simp [*]; done)) (by omega)
  exact lp44 _ 0 (va_up (σ8) a (.inr (2, [.ref (a + 1), .int (nI 0), .int 0, .ref (a + 2), .ref (a + 3), .int 0, .int 0]))) (by omega) (by first | exact gn_step hI hr8 hf8 | exact ⟨va_up_self _ _ _, by rw [va_up_ne _ _ (by omega)]; exact c1, by rw [va_up_ne _ _ (by omega)]; exact c2, by rw [va_up_ne _ _ (by omega)]; exact p1, by rw [va_up_ne _ _ (by omega)]; exact p2, fun r hr => absurd hr (Nat.not_lt_zero _), fun b hb => by rw [va_up_ne _ _ (by omega), p3 b (by omega)]; (repeat rw [va_up_ne _ _ (by omega)])⟩) _ (by first | rfl | (simp [*]; done)) (Nat.lt_succ_self _)
