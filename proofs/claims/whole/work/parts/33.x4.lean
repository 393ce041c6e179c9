def psU (K : GK) (σ : GS) (a n : Nat) (f : Nat → Int32) : GS := va_up (va_up σ (a + 1) (lA K 6 (psS n f))) a (psO a f)
theorem psS_cp {n : Nat} {f : Nat → Int32} {g : Nat → Int64} (hg : ∀ k, 6 ≤ k → g k = 0) : va_cpy (psS n f) g 0 0 6 = psS n f := by
  funext k
  by_cases e : k < 6
  · rw [va_cpy, if_pos (by omega)]
    congr 1
    omega
  · rw [va_cpy, if_neg (by omega), hg k (by omega), psS, if_neg e]
theorem psS_6 {n : Nat} {f : Nat → Int32} : ∀ k, 6 ≤ k → psS n f k = 0 := fun k hk => if_neg (by omega)
/-- what a chosen cell becomes -/
def givF (n : Nat) (x : Int32) (s : Nat) (f : Nat → Int32) : Nat → Int32 := if x = -1 ∨ s = 0 then f else turF n (sl 1 x.toNatClampNeg) s f
def givX (x : Int32) (s : Nat) : Int64 := if x = -1 ∨ s = 0 then 0 else sl 1 x.toNatClampNeg
theorem one_lt {n c : Nat} (hc : c < n) : ∀ i, tb (sl 1 c) i = true → i < n := fun i hi => by
  rw [tb_one, Bool.and_eq_true, decide_eq_true_eq, decide_eq_true_eq] at hi
  omega
def clrP (x : Int64) (g : Nat → Int64) (k : Nat) : Nat → Int64 := fun j => if j < k then (if j = 0 then x else 0) else g j
theorem clrP_0 {x : Int64} {g : Nat → Int64} : clrP x g 0 = g := funext fun j => if_neg (by omega)
theorem clrP_s {x v : Int64} {g : Nat → Int64} {k : Nat} (hv : v = if k = 0 then x else 0) : va_up (clrP x g k) k v = clrP x g (k + 1) := by
  funext j
  by_cases e : j = k
  · subst e
    rw [va_up_self, clrP, if_pos (by omega), hv]
  · rw [va_up_ne _ _ e]
    simp only [clrP]
    by_cases h1 : j < k
    · rw [if_pos h1, if_pos (show j < k + 1 by omega)]
    · rw [if_neg h1, if_neg (by omega)]
theorem bits_no (n : Nat) : bitsF (fun _ => false) n = 0 := by
  induction n with
  | zero => rfl
  | succ n ih => rw [bitsF, ih]; simp
theorem clrP_e {n : Nat} {g : Nat → Int64} (hg : ∀ k, 6 ≤ k → g k = 0) : clrP (allF n) g 6 = psS n (fun _ => nI 0) := by
  funext k
  by_cases e : k < 6
  · rw [clrP, if_pos e, psS, if_pos e]
    by_cases e2 : k = 0
    · rw [if_pos e2, e2]; simp [allF]
    · rw [if_neg e2]
      have h1 : ¬ nI 0 = nI k := fun q => e2 ((nI_eq (by omega) (by omega)).mp q).symm
      simp only [h1, decide_false]
      exact (bits_no n).symm
  · rw [clrP, if_neg e, psS, if_neg e, hg k (by omega)]

set_option maxRecDepth 20000 in
theorem X_copyFrom (K : GK) {σ : GS} {L : List Nat} {z : Nat} {a n : Nat} {c0 c1 : Int32} {g : Nat → Int64} (haL : a ∈ L) (haL1 : a + 1 ∈ L) (hsa : σ a = .inr (4, [.ref (a + 1), .int c0, .int c1])) (hss : σ (a + 1) = lA K 6 g) (hg : ∀ k, 6 ≤ k → g k = 0) {b : Nat} {f : Nat → Int32} (hbL : b ∈ L) (hbL1 : b + 1 ∈ L) (hsb : σ b = psO b f) (hsb1 : σ (b + 1) = lA K 6 (psS n f)) (hab : a + 1 < b ∨ b + 1 < a) : gT K yX4_copyFrom cX4_copyFrom 2 none 1 [.ref a, .ref b] z L (σ) none (psU K σ a n f) := by
  refine g_intro [some (.ref a), some (.ref b)] (fun Γ hC => ?_) (by simp [g_en, lv_args, Value.category])
  refine g_aload_n (n := 1) hC rfl dX4_copyFrom_0 ?_
  refine g_getf (n := 4) (v := .ref (b + 1)) hC gf_X4_9 (hbL) (hsb) rfl dX4_copyFrom_1 ?_
  refine g_iconst (n := 5) (v := (nI 0)) hC (by decide) dX4_copyFrom_4 ?_
  refine g_aload_n (n := 6) hC rfl dX4_copyFrom_5 ?_
  refine g_getf (n := 9) (v := .ref (a + 1)) hC gf_X4_9 (haL) (hsa) rfl dX4_copyFrom_6 ?_
  refine g_iconst (n := 10) (v := (nI 0)) hC (by decide) dX4_copyFrom_9 ?_
  refine g_bipush (n := 12) (v := (nI 6)) hC (by decide) dX4_copyFrom_10 ?_
  refine g_copyl (n := 15) hC (by exact gmem (i := 316) (by decide +kernel) (by decide +kernel)) (hbL1) (haL1) (hsb1) (hss) (by decide) rfl dX4_copyFrom_12 ?_
  refine G.eqs (show _ = va_up (σ) (a + 1) (lA K 6 (psS n f)) from by rw [psS_cp hg]) ?_
  refine g_aload_n (n := 16) hC rfl dX4_copyFrom_15 ?_
  refine g_aload_n (n := 17) hC rfl dX4_copyFrom_16 ?_
  refine g_getf (n := 20) (v := .int (f 147)) hC gf_X4_15 (hbL) ((va_up_ne _ _ (by omega)).trans (hsb)) rfl dX4_copyFrom_17 ?_
  refine g_putf (n := 23) hC gp_X4_15 (haL) ((va_up_ne _ _ (by omega)).trans (hsa)) dX4_copyFrom_20 ?_
  refine G.eqs (show _ = va_up (va_up (σ) (a + 1) (lA K 6 (psS n f))) a (.inr (4, [.ref (a + 1), .int (f 147), .int c1])) from rfl) ?_
  refine g_aload_n (n := 24) hC rfl dX4_copyFrom_23 ?_
  refine g_aload_n (n := 25) hC rfl dX4_copyFrom_24 ?_
  refine g_getf (n := 28) (v := .int (f 148)) hC gf_X4_19 (hbL) ((va_up_ne _ _ (by omega)).trans ((va_up_ne _ _ (by omega)).trans (hsb))) rfl dX4_copyFrom_25 ?_
  refine g_putf (n := 31) hC gp_X4_19 (haL) (va_up_self _ _ _) dX4_copyFrom_28 ?_
  refine G.eqs (show _ = va_up (va_up (σ) (a + 1) (lA K 6 (psS n f))) a (.inr (4, [.ref (a + 1), .int (f 147), .int (f 148)])) from bx_uu _ _ _ _) ?_
  exact g_vret hC dX4_copyFrom_31 (⟨rfl, rfl, rfl, rfl⟩)

set_option maxRecDepth 20000 in
theorem X_clear (K : GK) {σ : GS} {L : List Nat} {z : Nat} {a n : Nat} {c0 c1 : Int32} {g : Nat → Int64} (haL : a ∈ L) (haL1 : a + 1 ∈ L) (hsa : σ a = .inr (4, [.ref (a + 1), .int c0, .int c1])) (hss : σ (a + 1) = lA K 6 g) (hg : ∀ k, 6 ≤ k → g k = 0) {x : Int64} (hx : x = allF n) : gT K yX4_clear cX4_clear 4 none 0 [.ref a, .long x] z L (σ) none (psU K σ a n (fun _ => nI 0)) := by
  refine g_intro [some (.ref a), some (.long x), none, none] (fun Γ hC => ?_) (by simp [g_en, lv_args, Value.category])
  refine g_iconst (n := 1) (v := (nI 0)) hC (by decide) dX4_clear_0 ?_
  refine g_istore_n (n := 2) (ll1 := [some (.ref a), some (.long x), none, some (.int (nI 0))]) hC dX4_clear_1 rfl ?_
  have lp2 : ∀ (n9 : Nat) (k : Nat) (hk : k ≤ 6) (y3 : Int32) (ey3 : y3 = (nI k)) (hm9 : 6 - k < n9), G K Γ (z, 0, 0, L) (va_up σ (a + 1) (lA K 6 (clrP x g k))) 2 [some (.ref a), some (.long x), none, some (.int y3)] [] := by
    intro n9
    induction n9 with
    | zero =>
      intro k hk y3 ey3 hm9
      exact absurd hm9 (Nat.not_lt_zero _)
    | succ n9 ih2 =>
      intro k hk y3 ey3 hm9
      subst ey3
      refine g_iload_n (n := 3) hC rfl dX4_clear_2 ?_
      refine g_bipush (n := 5) (v := (nI 6)) hC (by decide) dX4_clear_3 ?_
      refine g_icmp_geN (n := 8) (tgt := 29) hC (by omega) (by omega) dX4_clear_5 (fun h5 => ?_) (fun h5 => ?_)
      ·
        refine g_aload_n (n := 30) hC rfl dX4_clear_29 ?_
        refine g_iconst (n := 31) (v := (nI 0)) hC (by decide) dX4_clear_30 ?_
        refine g_putf (n := 34) hC gp_X4_15 (haL) ((va_up_ne _ _ (by omega)).trans hsa) dX4_clear_31 ?_
        refine G.eqs (show _ = va_up (va_up σ (a + 1) (lA K 6 (clrP x g k))) a (.inr (4, [.ref (a + 1), .int (nI 0), .int c1])) from rfl) ?_
        refine g_aload_n (n := 35) hC rfl dX4_clear_34 ?_
        refine g_iconst (n := 36) (v := (nI 0)) hC (by decide) dX4_clear_35 ?_
        refine g_putf (n := 39) hC gp_X4_19 (haL) (va_up_self _ _ _) dX4_clear_36 ?_
        refine G.eqs (show _ = va_up (va_up σ (a + 1) (lA K 6 (clrP x g k))) a (.inr (4, [.ref (a + 1), .int (nI 0), .int (nI 0)])) from bx_uu _ _ _ _) ?_
        exact g_vret hC dX4_clear_39 (⟨rfl, rfl, rfl, (by rw [show k = 6 by omega, hx, clrP_e hg]; rfl)⟩)
      ·
        refine g_aload_n (n := 9) hC rfl dX4_clear_8 ?_
        refine g_getf (n := 12) (v := .ref (a + 1)) hC gf_X4_9 (haL) ((va_up_ne _ _ (by omega)).trans hsa) rfl dX4_clear_9 ?_
        refine g_iload_n (n := 13) hC rfl dX4_clear_12 ?_
        refine g_iload_n (n := 14) hC rfl dX4_clear_13 ?_
        refine g_if_neN (n := 17) (tgt := 21) hC (by omega) dX4_clear_14 (fun h14 => ?_) (fun h14 => ?_)
        ·
          refine g_lconst (n := 22) (v := 0) hC (by decide) dX4_clear_21 ?_
          refine g_last (n := 23) (j := k) (f := (clrP x g k)) hC (haL1) (va_up_self _ _ _) (rfl) (by omega) (by decide) dX4_clear_22 ?_
          refine g_iinc (n := 26) (ll1 := [some (.ref a), some (.long x), none, some (.int (nI (k + 1)))]) hC dX4_clear_23 rfl (nI_inc _) rfl ?_
          refine g_goto (n := 2) hC dX4_clear_26 ?_
          refine G.eqs (show _ = va_up σ (a + 1) (lA K 6 (clrP x g (k + 1))) from (by rw [bx_uu]; exact congrArg (fun q => va_up σ (a + 1) (lA K 6 q)) (clrP_s ((if_neg h14).symm)))) ?_
          exact ih2 (k + 1) (by omega) _ (by first | rfl | (simp [*]; done)) (by omega)
        ·
          refine g_lload_n (n := 18) hC rfl dX4_clear_17 ?_
          refine g_goto (n := 22) hC dX4_clear_18 ?_
          refine g_last (n := 23) (j := k) (f := (clrP x g k)) hC (haL1) (va_up_self _ _ _) (rfl) (by omega) (by decide) dX4_clear_22 ?_
          refine g_iinc (n := 26) (ll1 := [some (.ref a), some (.long x), none, some (.int (nI (k + 1)))]) hC dX4_clear_23 rfl (nI_inc _) rfl ?_
          refine g_goto (n := 2) hC dX4_clear_26 ?_
          refine G.eqs (show _ = va_up σ (a + 1) (lA K 6 (clrP x g (k + 1))) from (by rw [bx_uu]; exact congrArg (fun q => va_up σ (a + 1) (lA K 6 q)) (clrP_s ((if_pos h14).symm)))) ?_
          exact ih2 (k + 1) (by omega) _ (by first | rfl | (simp [*]; done)) (by omega)
  refine G.eqs (show _ = va_up σ (a + 1) (lA K 6 (clrP x g 0)) from (by rw [clrP_0, ← hss, va_up_same])) ?_
  exact lp2 _ 0 (by omega) _ (by first | rfl | (simp [*]; done)) (Nat.lt_succ_self _)

set_option maxRecDepth 20000 in
theorem X_give (K : GK) {σ : GS} {L : List Nat} {z : Nat} {a n : Nat} {f : Nat → Int32} (haL : a ∈ L) (haL1 : a + 1 ∈ L) (hsa : σ a = psO a f) (hss : σ (a + 1) = lA K 6 (psS n f)) (hn : n ≤ 49) {x : Int32} {s : Nat} (hx : chOK n x) (hs5 : s ≤ 5) : gT K yX4_give cX4_give 5 (some .long) 1 [.ref a, .int x, .int (nI s)] z L (σ) (some (.long (givX x s))) (va_up σ (a + 1) (lA K 6 (psS n (givF n x s f)))) := by
  refine g_intro [some (.ref a), some (.int x), some (.int (nI s)), none, none] (fun Γ hC => ?_) (by simp [g_en, lv_args, Value.category])
  refine g_iload_n (n := 1) hC rfl dX4_give_0 ?_
  refine g_iconst (n := 2) (v := (-1)) hC (by decide) dX4_give_1 ?_
  refine g_icmp_eq (n := 5) (tgt := 9) hC dX4_give_2 (fun h2 => ?_) (fun h2 => ?_)
  ·
    refine g_lconst (n := 10) (v := 0) hC (by decide) dX4_give_9 ?_
    exact g_lret hC dX4_give_10 (⟨rL (if_pos (Or.inl h2)).symm, rfl, rfl, (by rw [givF, if_pos (Or.inl h2), ← hss, va_up_same])⟩)
  ·
    obtain ⟨c, hc, hxc⟩ := hx.resolve_left h2
    subst hxc
    have hcl : (nI c).toNatClampNeg = c := nI_clamp (by omega)
    refine g_iload_n (n := 6) hC rfl dX4_give_5 ?_
    refine g_if_neN (n := 9) (tgt := 11) hC (by omega) dX4_give_6 (fun h6 => ?_) (fun h6 => ?_)
    ·
      refine g_lconst (n := 12) (v := 1) hC (by decide) dX4_give_11 ?_
      refine g_iload_n (n := 13) hC rfl dX4_give_12 ?_
      refine g_lshlN (n := 14) hC (by omega) dX4_give_13 ?_
      refine g_lstore_n (n := 15) (ll1 := [some (.ref a), some (.int (nI c)), some (.int (nI s)), some (.long (sl 1 c)), none]) hC dX4_give_14 rfl ?_
      refine g_aload_n (n := 16) hC rfl dX4_give_15 ?_
      refine g_lload_n (n := 17) hC rfl dX4_give_16 ?_
      refine g_iload_n (n := 18) hC rfl dX4_give_17 ?_
      refine g_cVv (n := 21) hC gv_X4_73 (haL) (hsa) (X_turn K haL haL1 hsa hss hn (x := sl 1 c) (s := s) hs5 (one_lt hc)) dX4_give_18 ?_
      refine g_lload_n (n := 22) hC rfl dX4_give_21 ?_
      exact g_lret hC dX4_give_22 (⟨rL (by rw [givX, if_neg (fun q => q.elim h2 h6), hcl]), rfl, rfl, (by rw [givF, if_neg (fun q => q.elim h2 h6), hcl])⟩)
    ·
      refine g_lconst (n := 10) (v := 0) hC (by decide) dX4_give_9 ?_
      exact g_lret hC dX4_give_10 (⟨rL (if_pos (Or.inr h6)).symm, rfl, rfl, (by rw [givF, if_pos (Or.inr h6), ← hss, va_up_same])⟩)
