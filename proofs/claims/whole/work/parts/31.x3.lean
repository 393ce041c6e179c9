theorem out_x {n p : Nat} {f : Nat → Int32} (hp : p ≤ 1) : allF n &&& (ownF n f p ^^^ (-1)) &&& (psS n f 5 ^^^ (-1)) = outF f n p := by
  apply tb_ext
  intro i hi
  simp only [outF, ownF, psS_at (show 1 + p ≤ 5 by omega), psS_at (show 3 + p ≤ 5 by omega), psS_at (show 5 ≤ 5 by omega), tb_and, tb_not, tb_or]
  cases tb (allF n) i <;> cases tb (bitsF (fun i => decide (f i = nI (1 + p))) n) i <;> cases tb (bitsF (fun i => decide (f i = nI (3 + p))) n) i <;> cases tb (bitsF (fun i => decide (f i = nI 5)) n) i <;> simp [hi]
/-- the cells x get the state s -/
def turF (n : Nat) (x : Int64) (s : Nat) (f : Nat → Int32) : Nat → Int32 := fun i => if i < n ∧ tb x i = true then nI s else f i
def turP (n : Nat) (x : Int64) (s : Nat) (f : Nat → Int32) (k : Nat) : Nat → Int64 := fun j => if j < k then psS n (turF n x s f) j else psS n f j
theorem turP_0 {n s : Nat} {x : Int64} {f : Nat → Int32} : turP n x s f 0 = psS n f := funext fun j => if_neg (by omega)
theorem turP_k {n s k : Nat} {x : Int64} {f : Nat → Int32} : turP n x s f k k = psS n f k := if_neg (by omega)
theorem tur_y {n s : Nat} {x : Int64} {f : Nat → Int32} (hn : n ≤ 49) (hs : s ≤ 5) (hx : ∀ i, tb x i = true → i < n) : psS n f s ||| x = psS n (turF n x s f) s := by
  apply tb_ext
  intro i hi
  rw [tb_or, psS_at hs, psS_at hs, tb_bitsF _ _ (by omega), tb_bitsF _ _ (by omega)]
  by_cases e : tb x i = true
  · simp [turF, e, hx i e]
  · simp [turF, e]
theorem tur_n {n s k : Nat} {x : Int64} {f : Nat → Int32} (hn : n ≤ 49) (hk : k ≤ 5) (hs : s ≤ 5) (hne : ¬ k = s) : psS n f k &&& (x ^^^ (-1)) = psS n (turF n x s f) k := by
  apply tb_ext
  intro i hi
  rw [tb_and, tb_not, psS_at hk, psS_at hk, tb_bitsF _ _ (by omega), tb_bitsF _ _ (by omega)]
  have h1 : ¬ nI s = nI k := fun q => hne ((nI_eq (by omega) (by omega)).mp q).symm
  by_cases e : tb x i = true
  · by_cases e2 : i < n
    · simp [turF, e, e2, h1]
    · simp [e2]
  · simp [turF, e, hi]
theorem turP_s {n s k : Nat} {x v : Int64} {f : Nat → Int32} (hv : v = psS n (turF n x s f) k) : va_up (turP n x s f k) k v = turP n x s f (k + 1) := by
  funext j
  by_cases e : j = k
  · subst e
    rw [va_up_self, turP, if_pos (by omega), hv]
  · rw [va_up_ne _ _ e]
    simp only [turP]
    by_cases h1 : j < k
    · rw [if_pos h1, if_pos (by omega)]
    · rw [if_neg h1, if_neg (by omega)]
theorem turP_e {n s : Nat} {x : Int64} {f : Nat → Int32} : turP n x s f 6 = psS n (turF n x s f) := funext fun j => by
  by_cases e : j < 6
  · exact if_pos e
  · rw [turP, if_neg e, psS, psS, if_neg e, if_neg e]
theorem tur_v {n s k : Nat} {x : Int64} {f : Nat → Int32} (hn : n ≤ 49) (hs : s ≤ 5) (hx : ∀ i, tb x i = true → i < n) (e : k = s) : turP n x s f k k ||| x = psS n (turF n x s f) k := by
  subst e; rw [turP_k]; exact tur_y hn hs hx
theorem tur_w {n s k : Nat} {x : Int64} {f : Nat → Int32} (hn : n ≤ 49) (hk : k ≤ 5) (hs : s ≤ 5) (e : ¬ k = s) : turP n x s f k k &&& (x ^^^ (-1)) = psS n (turF n x s f) k := by
  rw [turP_k]; exact tur_n hn hk hs e

set_option maxRecDepth 20000 in
theorem X_open (K : GK) {σ : GS} {L : List Nat} {z : Nat} {b : Nat} {w h : Nat} (hbL : b ∈ L) (hsb : σ b = bdA w h) (hw1 : 4 ≤ w) (hw2 : w ≤ 7) (hh1 : 4 ≤ h) (hh2 : h ≤ 7) {a : Nat} {f : Nat → Int32} (haL : a ∈ L) (haL1 : a + 1 ∈ L) (hsa : σ a = psO a f) (hss : σ (a + 1) = lA K 6 (psS (w * h) f)) {p : Nat} (hp : p ≤ 1) : gT K yX4_open cX4_open 3 (some .long) 1 [.ref a, .ref b, .int (nI p)] z L (σ) (some (.long (outF f (w * h) p))) (σ) := by
  have hn : w * h ≤ 49 := Nat.mul_le_mul hw2 hh2
  have hn1 : 16 ≤ w * h := Nat.mul_le_mul hw1 hh1
  refine g_intro [some (.ref a), some (.ref b), some (.int (nI p))] (fun Γ hC => ?_) (by simp [g_en, lv_args, Value.category])
  refine g_aload_n (n := 1) hC rfl dX4_open_0 ?_
  refine g_getf (n := 4) (v := .long (allF (w * h))) hC gf_X4_45 (hbL) (hsb) rfl dX4_open_1 ?_
  refine g_aload_n (n := 5) hC rfl dX4_open_4 ?_
  refine g_iload_n (n := 6) hC rfl dX4_open_5 ?_
  refine g_cV (n := 9) hC gv_X4_51 (haL) (hsa) (X_own K haL haL1 hsa hss hn hp) dX4_open_6 ?_
  refine g_ldc2 (n := 12) hC gc_X4_54 dX4_open_9 ?_
  refine g_lxor (n := 13) hC dX4_open_12 ?_
  refine g_land (n := 14) hC dX4_open_13 ?_
  refine g_aload_n (n := 15) hC rfl dX4_open_14 ?_
  refine g_getf (n := 18) (v := .ref (a + 1)) hC gf_X4_9 (haL) (hsa) rfl dX4_open_15 ?_
  refine g_iconst (n := 19) (v := (nI 5)) hC (by decide) dX4_open_18 ?_
  refine g_lald (n := 20) (j := 5) hC (haL1) (hss) (rfl) (by omega) (by omega) dX4_open_19 ?_
  refine g_ldc2 (n := 23) hC gc_X4_54 dX4_open_20 ?_
  refine g_lxor (n := 24) hC dX4_open_23 ?_
  refine g_land (n := 25) hC dX4_open_24 ?_
  exact g_lret hC dX4_open_25 (⟨rL (out_x hp), rfl, rfl, rfl⟩)

set_option maxRecDepth 20000 in
theorem X_stateOf (K : GK) {σ : GS} {L : List Nat} {z : Nat} {a n : Nat} {f : Nat → Int32} (haL : a ∈ L) (haL1 : a + 1 ∈ L) (hsa : σ a = psO a f) (hss : σ (a + 1) = lA K 6 (psS n f)) (hn : n ≤ 49) {c s0 : Nat} (hc : c < n) (hs0 : s0 ≤ 5) (hfc : f c = nI s0) : gT K yX4_stateOf cX4_stateOf 4 (some .int) 0 [.ref a, .int (nI c)] z L (σ) (some (.int (f c))) (σ) := by
  refine g_intro [some (.ref a), some (.int (nI c)), none, none] (fun Γ hC => ?_) (by simp [g_en, lv_args, Value.category])
  refine g_iconst (n := 1) (v := (nI 0)) hC (by decide) dX4_stateOf_0 ?_
  refine g_istore_n (n := 2) (ll1 := [some (.ref a), some (.int (nI c)), some (.int (nI 0)), none]) hC dX4_stateOf_1 rfl ?_
  refine g_iconst (n := 3) (v := (nI 0)) hC (by decide) dX4_stateOf_2 ?_
  refine g_istore_n (n := 4) (ll1 := [some (.ref a), some (.int (nI c)), some (.int (nI 0)), some (.int (nI 0))]) hC dX4_stateOf_3 rfl ?_
  have lp4 : ∀ (n9 : Nat) (k : Nat) (hk : k ≤ 6) (y2 : Int32) (ey2 : y2 = (nI (if s0 < k then s0 else 0))) (y3 : Int32) (ey3 : y3 = (nI k)) (hm9 : 6 - k < n9), G K Γ (z, 0, 0, L) (σ) 4 [some (.ref a), some (.int (nI c)), some (.int y2), some (.int y3)] [] := by
    intro n9
    induction n9 with
    | zero =>
      intro k hk y2 ey2 y3 ey3 hm9
      exact absurd hm9 (Nat.not_lt_zero _)
    | succ n9 ih4 =>
      intro k hk y2 ey2 y3 ey3 hm9
      subst ey2
      subst ey3
      refine g_iload_n (n := 5) hC rfl dX4_stateOf_4 ?_
      refine g_bipush (n := 7) (v := (nI 6)) hC (by decide) dX4_stateOf_5 ?_
      refine g_icmp_geN (n := 10) (tgt := 33) hC (by omega) (by omega) dX4_stateOf_7 (fun h7 => ?_) (fun h7 => ?_)
      ·
        refine g_iload_n (n := 34) hC rfl dX4_stateOf_33 ?_
        exact g_iret hC dX4_stateOf_34 (⟨rI (by rw [hfc, if_pos (by omega)]), rfl, rfl, rfl⟩)
      ·
        refine g_aload_n (n := 11) hC rfl dX4_stateOf_10 ?_
        refine g_getf (n := 14) (v := .ref (a + 1)) hC gf_X4_9 (haL) (hsa) rfl dX4_stateOf_11 ?_
        refine g_iload_n (n := 15) hC rfl dX4_stateOf_14 ?_
        refine g_lald (n := 16) (j := k) hC (haL1) (hss) (rfl) (by omega) (by omega) dX4_stateOf_15 ?_
        refine g_iload_n (n := 17) hC rfl dX4_stateOf_16 ?_
        refine g_lushrN (n := 18) hC (by omega) dX4_stateOf_17 ?_
        refine g_lconst (n := 19) (v := 1) hC (by decide) dX4_stateOf_18 ?_
        refine g_land (n := 20) hC dX4_stateOf_19 ?_
        refine g_lconst (n := 21) (v := 0) hC (by decide) dX4_stateOf_20 ?_
        refine g_lcmp_eq (n := 25) (tgt := 27) hC dX4_stateOf_21 dX4_stateOf_22 (fun h21 => ?_) (fun h21 => ?_)
        ·
          have hne : s0 ≠ k := fun q => by
            have h1 := psS_tb (k := k) (f := f) (by omega) (show n ≤ 64 by omega) hc
            rw [(su1_0 _).mp h21, hfc, q] at h1
            simp at h1
          refine g_iinc (n := 30) (ll1 := [some (.ref a), some (.int (nI c)), some (.int (nI (if s0 < k then s0 else 0))), some (.int (nI (k + 1)))]) hC dX4_stateOf_27 rfl (nI_inc _) rfl ?_
          refine g_goto (n := 4) hC dX4_stateOf_30 ?_
          exact ih4 (k + 1) (by omega) _ (congrArg nI (by split <;> split <;> omega)) _ (by first | rfl | (simp [*]; done)) (by omega)
        ·
          have heq : s0 = k := by
            by_cases q : s0 = k
            · exact q
            · have h1 := psS_tb (k := k) (f := f) (by omega) (show n ≤ 64 by omega) hc
              rw [hfc] at h1
              exact absurd ((su1_0 _).mpr (h1.trans (decide_eq_false (fun q2 => q ((nI_eq (by omega) (by omega)).mp q2))))) h21
          refine g_iload_n (n := 26) hC rfl dX4_stateOf_25 ?_
          refine g_istore_n (n := 27) (ll1 := [some (.ref a), some (.int (nI c)), some (.int (nI k)), some (.int (nI k))]) hC dX4_stateOf_26 rfl ?_
          refine g_iinc (n := 30) (ll1 := [some (.ref a), some (.int (nI c)), some (.int (nI k)), some (.int (nI (k + 1)))]) hC dX4_stateOf_27 rfl (nI_inc _) rfl ?_
          refine g_goto (n := 4) hC dX4_stateOf_30 ?_
          exact ih4 (k + 1) (by omega) _ (congrArg nI (by rw [if_pos (by omega)]; omega)) _ (by first | rfl | (simp [*]; done)) (by omega)
  exact lp4 _ 0 (by omega) _ (rfl) _ (by first | rfl | (simp [*]; done)) (Nat.lt_succ_self _)

set_option maxRecDepth 20000 in
theorem X_turn (K : GK) {σ : GS} {L : List Nat} {z : Nat} {a n : Nat} {f : Nat → Int32} (haL : a ∈ L) (haL1 : a + 1 ∈ L) (hsa : σ a = psO a f) (hss : σ (a + 1) = lA K 6 (psS n f)) (hn : n ≤ 49) {x : Int64} {s : Nat} (hs5 : s ≤ 5) (hx : ∀ i, tb x i = true → i < n) : gT K yX4_turn cX4_turn 5 none 0 [.ref a, .long x, .int (nI s)] z L (σ) none (va_up σ (a + 1) (lA K 6 (psS n (turF n x s f)))) := by
  refine g_intro [some (.ref a), some (.long x), none, some (.int (nI s)), none] (fun Γ hC => ?_) (by simp [g_en, lv_args, Value.category])
  refine g_iconst (n := 1) (v := (nI 0)) hC (by decide) dX4_turn_0 ?_
  refine g_istore (n := 3) (ll1 := [some (.ref a), some (.long x), none, some (.int (nI s)), some (.int (nI 0))]) hC dX4_turn_1 rfl ?_
  have lp3 : ∀ (n9 : Nat) (k : Nat) (hk : k ≤ 6) (y4 : Int32) (ey4 : y4 = (nI k)) (hm9 : 6 - k < n9), G K Γ (z, 0, 0, L) (va_up σ (a + 1) (lA K 6 (turP n x s f k))) 3 [some (.ref a), some (.long x), none, some (.int (nI s)), some (.int y4)] [] := by
    intro n9
    induction n9 with
    | zero =>
      intro k hk y4 ey4 hm9
      exact absurd hm9 (Nat.not_lt_zero _)
    | succ n9 ih3 =>
      intro k hk y4 ey4 hm9
      subst ey4
      refine g_iload (n := 5) hC rfl dX4_turn_3 ?_
      refine g_bipush (n := 7) (v := (nI 6)) hC (by decide) dX4_turn_5 ?_
      refine g_icmp_geN (n := 10) (tgt := 54) hC (by omega) (by omega) dX4_turn_7 (fun h7 => ?_) (fun h7 => ?_)
      ·
        exact g_vret hC dX4_turn_54 (⟨rfl, rfl, rfl, (by rw [show k = 6 by omega, turP_e])⟩)
      ·
        refine g_aload_n (n := 11) hC rfl dX4_turn_10 ?_
        refine g_getf (n := 14) (v := .ref (a + 1)) hC gf_X4_9 (haL) ((va_up_ne _ _ (by omega)).trans hsa) rfl dX4_turn_11 ?_
        refine g_iload (n := 16) hC rfl dX4_turn_14 ?_
        refine g_iload (n := 18) hC rfl dX4_turn_16 ?_
        refine g_iload_n (n := 19) hC rfl dX4_turn_18 ?_
        refine g_icmp_neN (n := 22) (tgt := 34) hC (by omega) (by omega) dX4_turn_19 (fun h19 => ?_) (fun h19 => ?_)
        ·
          refine g_aload_n (n := 35) hC rfl dX4_turn_34 ?_
          refine g_getf (n := 38) (v := .ref (a + 1)) hC gf_X4_9 (haL) ((va_up_ne _ _ (by omega)).trans hsa) rfl dX4_turn_35 ?_
          refine g_iload (n := 40) hC rfl dX4_turn_38 ?_
          refine g_lald (n := 41) (j := k) hC (haL1) (va_up_self _ _ _) (rfl) (by omega) (by omega) dX4_turn_40 ?_
          refine g_lload_n (n := 42) hC rfl dX4_turn_41 ?_
          refine g_ldc2 (n := 45) hC gc_X4_54 dX4_turn_42 ?_
          refine g_lxor (n := 46) hC dX4_turn_45 ?_
          refine g_land (n := 47) hC dX4_turn_46 ?_
          refine g_last (n := 48) (j := k) (f := (turP n x s f k)) hC (haL1) (va_up_self _ _ _) (rfl) (by omega) (by decide) dX4_turn_47 ?_
          refine g_iinc (n := 51) (ll1 := [some (.ref a), some (.long x), none, some (.int (nI s)), some (.int (nI (k + 1)))]) hC dX4_turn_48 rfl (nI_inc _) rfl ?_
          refine g_goto (n := 3) hC dX4_turn_51 ?_
          refine G.eqs (show _ = va_up σ (a + 1) (lA K 6 (turP n x s f (k + 1))) from (by rw [bx_uu]; exact congrArg (fun q => va_up σ (a + 1) (lA K 6 q)) (turP_s (tur_w hn (by omega) hs5 h19)))) ?_
          exact ih3 (k + 1) (by omega) _ (by first | rfl | (simp [*]; done)) (by omega)
        ·
          refine g_aload_n (n := 23) hC rfl dX4_turn_22 ?_
          refine g_getf (n := 26) (v := .ref (a + 1)) hC gf_X4_9 (haL) ((va_up_ne _ _ (by omega)).trans hsa) rfl dX4_turn_23 ?_
          refine g_iload (n := 28) hC rfl dX4_turn_26 ?_
          refine g_lald (n := 29) (j := k) hC (haL1) (va_up_self _ _ _) (rfl) (by omega) (by omega) dX4_turn_28 ?_
          refine g_lload_n (n := 30) hC rfl dX4_turn_29 ?_
          refine g_lor (n := 31) hC dX4_turn_30 ?_
          refine g_goto (n := 47) hC dX4_turn_31 ?_
          refine g_last (n := 48) (j := k) (f := (turP n x s f k)) hC (haL1) (va_up_self _ _ _) (rfl) (by omega) (by decide) dX4_turn_47 ?_
          refine g_iinc (n := 51) (ll1 := [some (.ref a), some (.long x), none, some (.int (nI s)), some (.int (nI (k + 1)))]) hC dX4_turn_48 rfl (nI_inc _) rfl ?_
          refine g_goto (n := 3) hC dX4_turn_51 ?_
          refine G.eqs (show _ = va_up σ (a + 1) (lA K 6 (turP n x s f (k + 1))) from (by rw [bx_uu]; exact congrArg (fun q => va_up σ (a + 1) (lA K 6 q)) (turP_s (tur_v hn hs5 hx h19)))) ?_
          exact ih3 (k + 1) (by omega) _ (by first | rfl | (simp [*]; done)) (by omega)
  refine G.eqs (show _ = va_up σ (a + 1) (lA K 6 (turP n x s f 0)) from (by rw [turP_0, ← hss, va_up_same])) ?_
  exact lp3 _ 0 (by omega) _ (by first | rfl | (simp [*]; done)) (Nat.lt_succ_self _)
