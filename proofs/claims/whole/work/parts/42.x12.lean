/-! ===== the class: a round ===== -/
def rndO (a : Nat) (c : Nat → Int32) (p : Int64) : va_E := .inr (6, [.int (c 0), .int (c 1), .int (c 2), .int (c 3), .ref (a + 1), .long p, .ref (a + 3)])
/-- the round at a: its numbers, what was placed, its waves, the position behind it -/
def rdI (K : GK) (L : List Nat) (σ : GS) (a n : Nat) (c : Nat → Int32) (p : Int64) (u : Nat → Int64) (f : Nat → Int32) : Prop := (a ∈ L ∧ a + 1 ∈ L ∧ a + 1 + 1 ∈ L ∧ a + 3 ∈ L) ∧ σ a = rndO a c p ∧ σ (a + 1) = psO (a + 1) f ∧ σ (a + 1 + 1) = lA K 6 (psS n f) ∧ σ (a + 3) = lA K 8 u
theorem ps0 {n : Nat} {f : Nat → Int32} (hn : n ≤ 49) : psS n f 0 = 0 ↔ mny f n (nI 0) = 0 := by
  rw [mny, ct_0]
  constructor
  · intro h k hk
    rw [← psS_tb (k := 0) (n := n) (by omega) (by omega) hk, h, tb_0]
  · intro h
    apply tb_ext
    intro i _
    rw [tb_0]
    by_cases e : i < n
    · rw [psS_tb (by omega) (by omega) e, h i e]
    · cases q : tb (psS n f 0) i
      · rfl
      · exact absurd (psS_lt (by omega) q) e
def wvn (u : Nat → Int64) (k : Nat) : Nat := ct (fun i => decide (u i ≠ 0)) k
theorem wvn_t {u : Nat → Int64} {k : Nat} (h : ¬ u k = 0) : wvn u k + 1 = wvn u (k + 1) := by simp [wvn, ct, h]
theorem wvn_f {u : Nat → Int64} {k : Nat} (h : u k = 0) : wvn u k + 0 = wvn u (k + 1) := by simp [wvn, ct, h]
def cbw (u : Nat → Int64) : Nat → Nat
  | 0 => 0
  | k + 1 => cbw u k + ct (tb (u k)) 64
def lwv (u : Nat → Int64) (q : Nat) : Nat → Int32
  | 0 => -1
  | k + 1 => if tb (u k) q = true then nI k else lwv u q k
theorem lwv_t {u : Nat → Int64} {q k : Nat} (h : ¬ su (u k) q &&& 1 = 0) : nI k = lwv u q (k + 1) := (if_pos (by
  cases e : tb (u k) q
  · exact absurd ((su1_0 _).mpr e) h
  · rfl)).symm
theorem lwv_f {u : Nat → Int64} {q k : Nat} (h : su (u k) q &&& 1 = 0) : lwv u q k = lwv u q (k + 1) := (if_neg (by rw [(su1_0 _).mp h]; decide)).symm
theorem su1_t {x : Int64} {k : Nat} (h : ¬ su x k &&& 1 = 0) : tb x k = true := by
  cases e : tb x k
  · exact absurd ((su1_0 _).mpr e) h
  · rfl
theorem nI_sub_neg {a b : Nat} (h : a < b) (hb : b < 1000) : ¬ 0 ≤ nI a - nI b := by
  have e : nI a - nI b = -(nI (b - a)) := by
    have h1 : nI b = nI a + nI (b - a) := by rw [nI_add]; congr 1; omega
    rw [h1, Int32.sub_eq_add_neg, Int32.neg_add, Int32.sub_eq_add_neg, ← Int32.add_assoc, Int32.add_right_neg, Int32.zero_add]
  rw [e, Int32.le_iff_toInt_le, Int32.toInt_neg, nI_toInt (by omega)]
  have h2 : ((b - a : Nat) : Int) ≤ 1000 := by omega
  have h3 : (-((b - a : Nat) : Int)).bmod (2 ^ 32) = -((b - a : Nat) : Int) := by rw [Int.bmod_eq_of_le] <;> omega
  rw [h3]
  show ¬ (0 : Int) ≤ _
  omega
theorem sgC_nb {w n j : Nat} {x : Int32} (hw : w ≤ 7) (hn : n ≤ 49) (hx : chOK n x) : narrow .char (.int (sgC w x j)) = .int (sgC w x j) := by
  rw [sgC]
  split
  · rfl
  · next h2 =>
    obtain ⟨x0, hx1, hx2⟩ := hx.resolve_left h2
    subst hx2
    have h8 := Nat.mod_le x0 w
    have h9 := Nat.div_le_self x0 w
    rw [nI_clamp (by omega)]
    split <;> exact (pk_charN (by omega)).1
def rsg (w : Nat) (c : Nat → Int32) (k : Nat) : Int32 := if k < lnC (c 0) then sgC w (c 0) k else if k - lnC (c 0) < lnC (c 1) then sgC w (c 1) (k - lnC (c 0)) else nI 59

set_option maxRecDepth 20000 in
theorem X_rchoice (K : GK) {σ : GS} {L : List Nat} {z : Nat} {a n : Nat} {c : Nat → Int32} {p : Int64} {u : Nat → Int64} {f : Nat → Int32} (hr : rdI K L σ a n c p u f) (hn : n ≤ 49) {q : Nat} (hq : q ≤ 1) : gT K yX6_choice cX6_choice 2 (some .int) 0 [.ref a, .int (nI q)] z L (σ) (some (.int (c q))) (σ) := by
  obtain ⟨⟨m0, m1, m2, m3⟩, s0, s1, s2, s3⟩ := hr
  refine g_intro [some (.ref a), some (.int (nI q))] (fun Γ hC => ?_) (by simp [g_en, lv_args, Value.category])
  refine g_iload_n (n := 1) hC rfl dX6_choice_0 ?_
  refine g_if_neN (n := 4) (tgt := 11) hC (by omega) dX6_choice_1 (fun h1 => ?_) (fun h1 => ?_)
  ·
    refine g_aload_n (n := 12) hC rfl dX6_choice_11 ?_
    refine g_getf (n := 15) (v := .int (c 1)) hC gf_X6_26 (m0) (s0) rfl dX6_choice_12 ?_
    exact g_iret hC dX6_choice_15 (⟨rI (by rw [show q = 1 by omega]), rfl, rfl, rfl⟩)
  ·
    refine g_aload_n (n := 5) hC rfl dX6_choice_4 ?_
    refine g_getf (n := 8) (v := .int (c 0)) hC gf_X6_22 (m0) (s0) rfl dX6_choice_5 ?_
    refine g_goto (n := 15) hC dX6_choice_8 ?_
    exact g_iret hC dX6_choice_15 (⟨rI (by rw [show q = 0 by omega]), rfl, rfl, rfl⟩)

set_option maxRecDepth 20000 in
theorem X_isClash (K : GK) {σ : GS} {L : List Nat} {z : Nat} {a n : Nat} {c : Nat → Int32} {p : Int64} {u : Nat → Int64} {f : Nat → Int32} (hr : rdI K L σ a n c p u f) (hn : n ≤ 49) : gT K yX6_isClash cX6_isClash 1 (some .boolean) 0 [.ref a] z L (σ) (some (.int (bI (c 0 = c 1 ∧ c 0 ≠ -1)))) (σ) := by
  obtain ⟨⟨m0, m1, m2, m3⟩, s0, s1, s2, s3⟩ := hr
  refine g_intro [some (.ref a)] (fun Γ hC => ?_) (by simp [g_en, lv_args, Value.category])
  refine g_aload_n (n := 1) hC rfl dX6_isClash_0 ?_
  refine g_getf (n := 4) (v := .int (c 0)) hC gf_X6_22 (m0) (s0) rfl dX6_isClash_1 ?_
  refine g_aload_n (n := 5) hC rfl dX6_isClash_4 ?_
  refine g_getf (n := 8) (v := .int (c 1)) hC gf_X6_26 (m0) (s0) rfl dX6_isClash_5 ?_
  refine g_icmp_ne (n := 11) (tgt := 23) hC dX6_isClash_8 (fun h8 => ?_) (fun h8 => ?_)
  ·
    refine g_iconst (n := 24) (v := (nI 0)) hC (by decide) dX6_isClash_23 ?_
    exact g_zret hC (by rfl) dX6_isClash_24 (⟨rI (bI_f (fun q => h8 q.1)).symm, rfl, rfl, rfl⟩)
  ·
    refine g_aload_n (n := 12) hC rfl dX6_isClash_11 ?_
    refine g_getf (n := 15) (v := .int (c 0)) hC gf_X6_22 (m0) (s0) rfl dX6_isClash_12 ?_
    refine g_iconst (n := 16) (v := (-1)) hC (by decide) dX6_isClash_15 ?_
    refine g_icmp_eq (n := 19) (tgt := 23) hC dX6_isClash_16 (fun h16 => ?_) (fun h16 => ?_)
    ·
      refine g_iconst (n := 24) (v := (nI 0)) hC (by decide) dX6_isClash_23 ?_
      exact g_zret hC (by rfl) dX6_isClash_24 (⟨rI (bI_f (fun q => q.2 h16)).symm, rfl, rfl, rfl⟩)
    ·
      refine g_iconst (n := 20) (v := (nI 1)) hC (by decide) dX6_isClash_19 ?_
      refine g_goto (n := 24) hC dX6_isClash_20 ?_
      exact g_zret hC (by rfl) dX6_isClash_24 (⟨rI (bI_t ⟨h8, h16⟩).symm, rfl, rfl, rfl⟩)

set_option maxRecDepth 20000 in
theorem X_ends (K : GK) {σ : GS} {L : List Nat} {z : Nat} {a n : Nat} {c : Nat → Int32} {p : Int64} {u : Nat → Int64} {f : Nat → Int32} (hr : rdI K L σ a n c p u f) (hn : n ≤ 49) {k : Nat} (hk : k ≤ 1000) : gT K yX6_ends cX6_ends 3 (some .boolean) 1 [.ref a, .int (nI k)] z L (σ) (some (.int (bI ((c 0 = -1 ∧ c 1 = -1) ∨ mny f n (nI 0) = 0 ∨ 60 ≤ k)))) (σ) := by
  obtain ⟨⟨m0, m1, m2, m3⟩, s0, s1, s2, s3⟩ := hr
  refine g_intro [some (.ref a), some (.int (nI k)), none] (fun Γ hC => ?_) (by simp [g_en, lv_args, Value.category])
  refine g_aload_n (n := 1) hC rfl dX6_ends_0 ?_
  refine g_getf (n := 4) (v := .int (c 0)) hC gf_X6_22 (m0) (s0) rfl dX6_ends_1 ?_
  refine g_iconst (n := 5) (v := (-1)) hC (by decide) dX6_ends_4 ?_
  refine g_icmp_ne (n := 8) (tgt := 20) hC dX6_ends_5 (fun h5 => ?_) (fun h5 => ?_)
  ·
    refine g_iconst (n := 21) (v := (nI 0)) hC (by decide) dX6_ends_20 ?_
    refine g_istore_n (n := 22) (ll1 := [some (.ref a), some (.int (nI k)), some (.int (nI 0))]) hC dX6_ends_21 rfl ?_
    refine g_iload_n (n := 23) hC rfl dX6_ends_22 ?_
    refine g_if_ne (n := 26) (tgt := 45) hC dX6_ends_23 (fun h9 => absurd h9 (by decide)) (fun _ => ?_)
    refine g_aload_n (n := 27) hC rfl dX6_ends_26 ?_
    refine g_getf (n := 30) (v := .ref (a + 1)) hC gf_X6_12 (m0) (s0) rfl dX6_ends_27 ?_
    refine g_iconst (n := 31) (v := (nI 0)) hC (by decide) dX6_ends_30 ?_
    refine g_cV (n := 34) hC gv_X6_57 (m1) (s1) (X_in K m1 m2 s1 s2 hn (k := 0) (by omega)) dX6_ends_31 ?_
    refine g_lconst (n := 35) (v := 0) hC (by decide) dX6_ends_34 ?_
    refine g_lcmp_eq (n := 39) (tgt := 45) hC dX6_ends_35 dX6_ends_36 (fun h35 => ?_) (fun h35 => ?_)
    ·
      refine g_iconst (n := 46) (v := (nI 1)) hC (by decide) dX6_ends_45 ?_
      refine g_goto (n := 50) hC dX6_ends_46 ?_
      exact g_zret hC (by rfl) dX6_ends_50 (⟨rI (bI_t (Or.inr (Or.inl ((ps0 hn).mp h35)))).symm, rfl, rfl, rfl⟩)
    ·
      refine g_iload_n (n := 40) hC rfl dX6_ends_39 ?_
      refine g_bipush (n := 42) (v := (nI 60)) hC (by decide) dX6_ends_40 ?_
      refine g_icmp_ltN (n := 45) (tgt := 49) hC (by omega) (by omega) dX6_ends_42 (fun h42 => ?_) (fun h42 => ?_)
      ·
        refine g_iconst (n := 50) (v := (nI 0)) hC (by decide) dX6_ends_49 ?_
        exact g_zret hC (by rfl) dX6_ends_50 (⟨rI (bI_f (fun q => q.elim (fun q => h5 q.1) (fun q => q.elim (fun q => h35 ((ps0 hn).mpr q)) (fun q => absurd q (by omega))))).symm, rfl, rfl, rfl⟩)
      ·
        refine g_iconst (n := 46) (v := (nI 1)) hC (by decide) dX6_ends_45 ?_
        refine g_goto (n := 50) hC dX6_ends_46 ?_
        exact g_zret hC (by rfl) dX6_ends_50 (⟨rI (bI_t (Or.inr (Or.inr h42))).symm, rfl, rfl, rfl⟩)
  ·
    refine g_aload_n (n := 9) hC rfl dX6_ends_8 ?_
    refine g_getf (n := 12) (v := .int (c 1)) hC gf_X6_26 (m0) (s0) rfl dX6_ends_9 ?_
    refine g_iconst (n := 13) (v := (-1)) hC (by decide) dX6_ends_12 ?_
    refine g_icmp_ne (n := 16) (tgt := 20) hC dX6_ends_13 (fun h13 => ?_) (fun h13 => ?_)
    ·
      refine g_iconst (n := 21) (v := (nI 0)) hC (by decide) dX6_ends_20 ?_
      refine g_istore_n (n := 22) (ll1 := [some (.ref a), some (.int (nI k)), some (.int (nI 0))]) hC dX6_ends_21 rfl ?_
      refine g_iload_n (n := 23) hC rfl dX6_ends_22 ?_
      refine g_if_ne (n := 26) (tgt := 45) hC dX6_ends_23 (fun h9 => absurd h9 (by decide)) (fun _ => ?_)
      refine g_aload_n (n := 27) hC rfl dX6_ends_26 ?_
      refine g_getf (n := 30) (v := .ref (a + 1)) hC gf_X6_12 (m0) (s0) rfl dX6_ends_27 ?_
      refine g_iconst (n := 31) (v := (nI 0)) hC (by decide) dX6_ends_30 ?_
      refine g_cV (n := 34) hC gv_X6_57 (m1) (s1) (X_in K m1 m2 s1 s2 hn (k := 0) (by omega)) dX6_ends_31 ?_
      refine g_lconst (n := 35) (v := 0) hC (by decide) dX6_ends_34 ?_
      refine g_lcmp_eq (n := 39) (tgt := 45) hC dX6_ends_35 dX6_ends_36 (fun h35 => ?_) (fun h35 => ?_)
      ·
        refine g_iconst (n := 46) (v := (nI 1)) hC (by decide) dX6_ends_45 ?_
        refine g_goto (n := 50) hC dX6_ends_46 ?_
        exact g_zret hC (by rfl) dX6_ends_50 (⟨rI (bI_t (Or.inr (Or.inl ((ps0 hn).mp h35)))).symm, rfl, rfl, rfl⟩)
      ·
        refine g_iload_n (n := 40) hC rfl dX6_ends_39 ?_
        refine g_bipush (n := 42) (v := (nI 60)) hC (by decide) dX6_ends_40 ?_
        refine g_icmp_ltN (n := 45) (tgt := 49) hC (by omega) (by omega) dX6_ends_42 (fun h42 => ?_) (fun h42 => ?_)
        ·
          refine g_iconst (n := 50) (v := (nI 0)) hC (by decide) dX6_ends_49 ?_
          exact g_zret hC (by rfl) dX6_ends_50 (⟨rI (bI_f (fun q => q.elim (fun q => h13 q.2) (fun q => q.elim (fun q => h35 ((ps0 hn).mpr q)) (fun q => absurd q (by omega))))).symm, rfl, rfl, rfl⟩)
        ·
          refine g_iconst (n := 46) (v := (nI 1)) hC (by decide) dX6_ends_45 ?_
          refine g_goto (n := 50) hC dX6_ends_46 ?_
          exact g_zret hC (by rfl) dX6_ends_50 (⟨rI (bI_t (Or.inr (Or.inr h42))).symm, rfl, rfl, rfl⟩)
    ·
      refine g_iconst (n := 17) (v := (nI 1)) hC (by decide) dX6_ends_16 ?_
      refine g_goto (n := 21) hC dX6_ends_17 ?_
      refine g_istore_n (n := 22) (ll1 := [some (.ref a), some (.int (nI k)), some (.int (nI 1))]) hC dX6_ends_21 rfl ?_
      refine g_iload_n (n := 23) hC rfl dX6_ends_22 ?_
      refine g_if_ne (n := 26) (tgt := 45) hC dX6_ends_23 (fun _ => ?_) (fun h9 => absurd h9 (by decide))
      refine g_iconst (n := 46) (v := (nI 1)) hC (by decide) dX6_ends_45 ?_
      refine g_goto (n := 50) hC dX6_ends_46 ?_
      exact g_zret hC (by rfl) dX6_ends_50 (⟨rI (bI_t (Or.inl ⟨h5, h13⟩)).symm, rfl, rfl, rfl⟩)

set_option maxRecDepth 20000 in
theorem X_rwaves (K : GK) {σ : GS} {L : List Nat} {z : Nat} {a n : Nat} {c : Nat → Int32} {p : Int64} {u : Nat → Int64} {f : Nat → Int32} (hr : rdI K L σ a n c p u f) (hn : n ≤ 49) : gT K yX6_waves cX6_waves 3 (some .int) 0 [.ref a] z L (σ) (some (.int (nI (wvn u 8)))) (σ) := by
  obtain ⟨⟨m0, m1, m2, m3⟩, s0, s1, s2, s3⟩ := hr
  refine g_intro [some (.ref a), none, none] (fun Γ hC => ?_) (by simp [g_en, lv_args, Value.category])
  refine g_iconst (n := 1) (v := (nI 0)) hC (by decide) dX6_waves_0 ?_
  refine g_istore_n (n := 2) (ll1 := [some (.ref a), some (.int (nI 0)), none]) hC dX6_waves_1 rfl ?_
  refine g_iconst (n := 3) (v := (nI 0)) hC (by decide) dX6_waves_2 ?_
  refine g_istore_n (n := 4) (ll1 := [some (.ref a), some (.int (nI 0)), some (.int (nI 0))]) hC dX6_waves_3 rfl ?_
  have lp4 : ∀ (n9 : Nat) (k : Nat) (hk : k ≤ 8) (y1 : Int32) (ey1 : y1 = (nI (wvn u k))) (y2 : Int32) (ey2 : y2 = (nI k)) (hm9 : 8 - k < n9), G K Γ (z, 0, 0, L) (σ) 4 [some (.ref a), some (.int y1), some (.int y2)] [] := by
    intro n9
    induction n9 with
    | zero =>
      intro k hk y1 ey1 y2 ey2 hm9
      exact absurd hm9 (Nat.not_lt_zero _)
    | succ n9 ih4 =>
      intro k hk y1 ey1 y2 ey2 hm9
      subst ey1
      subst ey2
      refine g_iload_n (n := 5) hC rfl dX6_waves_4 ?_
      refine g_bipush (n := 7) (v := (nI 8)) hC (by decide) dX6_waves_5 ?_
      refine g_icmp_geN (n := 10) (tgt := 35) hC (by omega) (by omega) dX6_waves_7 (fun h7 => ?_) (fun h7 => ?_)
      ·
        refine g_iload_n (n := 36) hC rfl dX6_waves_35 ?_
        exact g_iret hC dX6_waves_36 (⟨rI (by rw [show k = 8 by omega]), rfl, rfl, rfl⟩)
      ·
        refine g_iload_n (n := 11) hC rfl dX6_waves_10 ?_
        refine g_aload_n (n := 12) hC rfl dX6_waves_11 ?_
        refine g_getf (n := 15) (v := .ref (a + 3)) hC gf_X6_18 (m0) (s0) rfl dX6_waves_12 ?_
        refine g_iload_n (n := 16) hC rfl dX6_waves_15 ?_
        refine g_lald (n := 17) (j := k) hC (m3) (s3) (rfl) (by omega) (by omega) dX6_waves_16 ?_
        refine g_lconst (n := 18) (v := 0) hC (by decide) dX6_waves_17 ?_
        refine g_lcmp_ne (n := 22) (tgt := 26) hC dX6_waves_18 dX6_waves_19 (fun h18 => ?_) (fun h18 => ?_)
        ·
          refine g_iconst (n := 27) (v := (nI 1)) hC (by decide) dX6_waves_26 ?_
          refine g_iaddN (n := 28) hC dX6_waves_27 ?_
          refine g_istore_n (n := 29) (ll1 := [some (.ref a), some (.int (nI ((wvn u k) + 1))), some (.int (nI k))]) hC dX6_waves_28 rfl ?_
          refine g_iinc (n := 32) (ll1 := [some (.ref a), some (.int (nI ((wvn u k) + 1))), some (.int (nI (k + 1)))]) hC dX6_waves_29 rfl (nI_inc _) rfl ?_
          refine g_goto (n := 4) hC dX6_waves_32 ?_
          exact ih4 (k + 1) (by omega) _ (congrArg nI (wvn_t h18)) _ (by first | rfl | (simp [*]; done)) (by omega)
        ·
          refine g_iconst (n := 23) (v := (nI 0)) hC (by decide) dX6_waves_22 ?_
          refine g_goto (n := 27) hC dX6_waves_23 ?_
          refine g_iaddN (n := 28) hC dX6_waves_27 ?_
          refine g_istore_n (n := 29) (ll1 := [some (.ref a), some (.int (nI ((wvn u k) + 0))), some (.int (nI k))]) hC dX6_waves_28 rfl ?_
          refine g_iinc (n := 32) (ll1 := [some (.ref a), some (.int (nI ((wvn u k) + 0))), some (.int (nI (k + 1)))]) hC dX6_waves_29 rfl (nI_inc _) rfl ?_
          refine g_goto (n := 4) hC dX6_waves_32 ?_
          exact ih4 (k + 1) (by omega) _ (congrArg nI (wvn_f h18)) _ (by first | rfl | (simp [*]; done)) (by omega)
  exact lp4 _ 0 (by omega) _ (rfl) _ (by first | rfl | (simp [*]; done)) (Nat.lt_succ_self _)

set_option maxRecDepth 20000 in
theorem X_changedByWaves (K : GK) {σ : GS} {L : List Nat} {z : Nat} {a n : Nat} {c : Nat → Int32} {p : Int64} {u : Nat → Int64} {f : Nat → Int32} (hr : rdI K L σ a n c p u f) (hn : n ≤ 49) : gT K yX6_changedByWaves cX6_changedByWaves 3 (some .int) 1 [.ref a] z L (σ) (some (.int (nI (cbw u 8)))) (σ) := by
  obtain ⟨⟨m0, m1, m2, m3⟩, s0, s1, s2, s3⟩ := hr
  refine g_intro [some (.ref a), none, none] (fun Γ hC => ?_) (by simp [g_en, lv_args, Value.category])
  refine g_iconst (n := 1) (v := (nI 0)) hC (by decide) dX6_changedByWaves_0 ?_
  refine g_istore_n (n := 2) (ll1 := [some (.ref a), some (.int (nI 0)), none]) hC dX6_changedByWaves_1 rfl ?_
  refine g_iconst (n := 3) (v := (nI 0)) hC (by decide) dX6_changedByWaves_2 ?_
  refine g_istore_n (n := 4) (ll1 := [some (.ref a), some (.int (nI 0)), some (.int (nI 0))]) hC dX6_changedByWaves_3 rfl ?_
  have lp4 : ∀ (n9 : Nat) (k : Nat) (hk : k ≤ 8) (y1 : Int32) (ey1 : y1 = (nI (cbw u k))) (y2 : Int32) (ey2 : y2 = (nI k)) (hm9 : 8 - k < n9), G K Γ (z, 0, 0, L) (σ) 4 [some (.ref a), some (.int y1), some (.int y2)] [] := by
    intro n9
    induction n9 with
    | zero =>
      intro k hk y1 ey1 y2 ey2 hm9
      exact absurd hm9 (Nat.not_lt_zero _)
    | succ n9 ih4 =>
      intro k hk y1 ey1 y2 ey2 hm9
      subst ey1
      subst ey2
      refine g_iload_n (n := 5) hC rfl dX6_changedByWaves_4 ?_
      refine g_bipush (n := 7) (v := (nI 8)) hC (by decide) dX6_changedByWaves_5 ?_
      refine g_icmp_geN (n := 10) (tgt := 28) hC (by omega) (by omega) dX6_changedByWaves_7 (fun h7 => ?_) (fun h7 => ?_)
      ·
        refine g_iload_n (n := 29) hC rfl dX6_changedByWaves_28 ?_
        exact g_iret hC dX6_changedByWaves_29 (⟨rI (by rw [show k = 8 by omega]), rfl, rfl, rfl⟩)
      ·
        refine g_iload_n (n := 11) hC rfl dX6_changedByWaves_10 ?_
        refine g_aload_n (n := 12) hC rfl dX6_changedByWaves_11 ?_
        refine g_getf (n := 15) (v := .ref (a + 3)) hC gf_X6_18 (m0) (s0) rfl dX6_changedByWaves_12 ?_
        refine g_iload_n (n := 16) hC rfl dX6_changedByWaves_15 ?_
        refine g_lald (n := 17) (j := k) hC (m3) (s3) (rfl) (by omega) (by omega) dX6_changedByWaves_16 ?_
        refine g_cS (n := 20) hC gs_X6_61 (X_bitCount K) dX6_changedByWaves_17 ?_
        refine g_iaddN (n := 21) hC dX6_changedByWaves_20 ?_
        refine g_istore_n (n := 22) (ll1 := [some (.ref a), some (.int (nI ((cbw u k) + (ct (tb (u k)) 64)))), some (.int (nI k))]) hC dX6_changedByWaves_21 rfl ?_
        refine g_iinc (n := 25) (ll1 := [some (.ref a), some (.int (nI ((cbw u k) + (ct (tb (u k)) 64)))), some (.int (nI (k + 1)))]) hC dX6_changedByWaves_22 rfl (nI_inc _) rfl ?_
        refine g_goto (n := 4) hC dX6_changedByWaves_25 ?_
        exact ih4 (k + 1) (by omega) _ (by first | rfl | (simp [*]; done)) _ (by first | rfl | (simp [*]; done)) (by omega)
  exact lp4 _ 0 (by omega) _ (by first | rfl | (simp [*]; done)) _ (by first | rfl | (simp [*]; done)) (Nat.lt_succ_self _)

set_option maxRecDepth 20000 in
theorem X_changedByWave (K : GK) {σ : GS} {L : List Nat} {z : Nat} {a n : Nat} {c : Nat → Int32} {p : Int64} {u : Nat → Int64} {f : Nat → Int32} (hr : rdI K L σ a n c p u f) (hn : n ≤ 49) {k : Nat} (hk : k < 8) : gT K yX6_changedByWave cX6_changedByWave 2 (some .int) 1 [.ref a, .int (nI k)] z L (σ) (some (.int (nI (ct (tb (u k)) 64)))) (σ) := by
  obtain ⟨⟨m0, m1, m2, m3⟩, s0, s1, s2, s3⟩ := hr
  refine g_intro [some (.ref a), some (.int (nI k))] (fun Γ hC => ?_) (by simp [g_en, lv_args, Value.category])
  refine g_iload_n (n := 1) hC rfl dX6_changedByWave_0 ?_
  refine g_if_ltN (n := 4) (tgt := 22) hC (by omega) dX6_changedByWave_1 (fun h1 => h1.elim) (fun h1 => ?_)
  refine g_iload_n (n := 5) hC rfl dX6_changedByWave_4 ?_
  refine g_bipush (n := 7) (v := (nI 8)) hC (by decide) dX6_changedByWave_5 ?_
  refine g_icmp_geN (n := 10) (tgt := 22) hC (by omega) (by omega) dX6_changedByWave_7 (fun h7 => absurd h7 (by omega)) (fun h7 => ?_)
  refine g_aload_n (n := 11) hC rfl dX6_changedByWave_10 ?_
  refine g_getf (n := 14) (v := .ref (a + 3)) hC gf_X6_18 (m0) (s0) rfl dX6_changedByWave_11 ?_
  refine g_iload_n (n := 15) hC rfl dX6_changedByWave_14 ?_
  refine g_lald (n := 16) (j := k) hC (m3) (s3) (rfl) (by omega) (by omega) dX6_changedByWave_15 ?_
  refine g_cS (n := 19) hC gs_X6_61 (X_bitCount K) dX6_changedByWave_16 ?_
  refine g_goto (n := 23) hC dX6_changedByWave_19 ?_
  exact g_iret hC dX6_changedByWave_23 (⟨by first | rfl | (simp [*]; done), rfl, rfl, rfl⟩)

set_option maxRecDepth 20000 in
theorem X_rwaveOf (K : GK) {σ : GS} {L : List Nat} {z : Nat} {a n : Nat} {c : Nat → Int32} {p : Int64} {u : Nat → Int64} {f : Nat → Int32} (hr : rdI K L σ a n c p u f) (hn : n ≤ 49) {q : Nat} (hq : q < 49) : gT K yX6_waveThatChanged cX6_waveThatChanged 4 (some .int) 0 [.ref a, .int (nI q)] z L (σ) (some (.int (lwv u q 8))) (σ) := by
  obtain ⟨⟨m0, m1, m2, m3⟩, s0, s1, s2, s3⟩ := hr
  refine g_intro [some (.ref a), some (.int (nI q)), none, none] (fun Γ hC => ?_) (by simp [g_en, lv_args, Value.category])
  refine g_iconst (n := 1) (v := (-1)) hC (by decide) dX6_waveThatChanged_0 ?_
  refine g_istore_n (n := 2) (ll1 := [some (.ref a), some (.int (nI q)), some (.int (-1)), none]) hC dX6_waveThatChanged_1 rfl ?_
  refine g_iconst (n := 3) (v := (nI 0)) hC (by decide) dX6_waveThatChanged_2 ?_
  refine g_istore_n (n := 4) (ll1 := [some (.ref a), some (.int (nI q)), some (.int (-1)), some (.int (nI 0))]) hC dX6_waveThatChanged_3 rfl ?_
  have lp4 : ∀ (n9 : Nat) (k : Nat) (hk : k ≤ 8) (y2 : Int32) (ey2 : y2 = (lwv u q k)) (y3 : Int32) (ey3 : y3 = (nI k)) (hm9 : 8 - k < n9), G K Γ (z, 0, 0, L) (σ) 4 [some (.ref a), some (.int (nI q)), some (.int y2), some (.int y3)] [] := by
    intro n9
    induction n9 with
    | zero =>
      intro k hk y2 ey2 y3 ey3 hm9
      exact absurd hm9 (Nat.not_lt_zero _)
    | succ n9 ih4 =>
      intro k hk y2 ey2 y3 ey3 hm9
      subst ey2
      subst ey3
      refine g_iload_n (n := 5) hC rfl dX6_waveThatChanged_4 ?_
      refine g_bipush (n := 7) (v := (nI 8)) hC (by decide) dX6_waveThatChanged_5 ?_
      refine g_icmp_geN (n := 10) (tgt := 33) hC (by omega) (by omega) dX6_waveThatChanged_7 (fun h7 => ?_) (fun h7 => ?_)
      ·
        refine g_iload_n (n := 34) hC rfl dX6_waveThatChanged_33 ?_
        exact g_iret hC dX6_waveThatChanged_34 (⟨rI (by rw [show k = 8 by omega]), rfl, rfl, rfl⟩)
      ·
        refine g_aload_n (n := 11) hC rfl dX6_waveThatChanged_10 ?_
        refine g_getf (n := 14) (v := .ref (a + 3)) hC gf_X6_18 (m0) (s0) rfl dX6_waveThatChanged_11 ?_
        refine g_iload_n (n := 15) hC rfl dX6_waveThatChanged_14 ?_
        refine g_lald (n := 16) (j := k) hC (m3) (s3) (rfl) (by omega) (by omega) dX6_waveThatChanged_15 ?_
        refine g_iload_n (n := 17) hC rfl dX6_waveThatChanged_16 ?_
        refine g_lushrN (n := 18) hC (by omega) dX6_waveThatChanged_17 ?_
        refine g_lconst (n := 19) (v := 1) hC (by decide) dX6_waveThatChanged_18 ?_
        refine g_land (n := 20) hC dX6_waveThatChanged_19 ?_
        refine g_lconst (n := 21) (v := 0) hC (by decide) dX6_waveThatChanged_20 ?_
        refine g_lcmp_eq (n := 25) (tgt := 27) hC dX6_waveThatChanged_21 dX6_waveThatChanged_22 (fun h21 => ?_) (fun h21 => ?_)
        ·
          refine g_iinc (n := 30) (ll1 := [some (.ref a), some (.int (nI q)), some (.int (lwv u q k)), some (.int (nI (k + 1)))]) hC dX6_waveThatChanged_27 rfl (nI_inc _) rfl ?_
          refine g_goto (n := 4) hC dX6_waveThatChanged_30 ?_
          exact ih4 (k + 1) (by omega) _ (lwv_f h21) _ (by first | rfl | (simp [*]; done)) (by omega)
        ·
          refine g_iload_n (n := 26) hC rfl dX6_waveThatChanged_25 ?_
          refine g_istore_n (n := 27) (ll1 := [some (.ref a), some (.int (nI q)), some (.int (nI k)), some (.int (nI k))]) hC dX6_waveThatChanged_26 rfl ?_
          refine g_iinc (n := 30) (ll1 := [some (.ref a), some (.int (nI q)), some (.int (nI k)), some (.int (nI (k + 1)))]) hC dX6_waveThatChanged_27 rfl (nI_inc _) rfl ?_
          refine g_goto (n := 4) hC dX6_waveThatChanged_30 ?_
          exact ih4 (k + 1) (by omega) _ (lwv_t h21) _ (by first | rfl | (simp [*]; done)) (by omega)
  exact lp4 _ 0 (by omega) _ (rfl) _ (by first | rfl | (simp [*]; done)) (Nat.lt_succ_self _)

set_option maxRecDepth 20000 in
theorem X_changed (K : GK) {σ : GS} {L : List Nat} {z : Nat} {a n : Nat} {c : Nat → Int32} {p : Int64} {u : Nat → Int64} {f : Nat → Int32} (hr : rdI K L σ a n c p u f) (hn : n ≤ 49) {q : Nat} (hq : q < 49) : gT K yX6_changed cX6_changed 2 (some .boolean) 1 [.ref a, .int (nI q)] z L (σ) (some (.int (bI (tb p q = true ∨ ¬ lwv u q 8 < 0)))) (σ) := by
  obtain ⟨⟨m0, m1, m2, m3⟩, s0, s1, s2, s3⟩ := hr
  refine g_intro [some (.ref a), some (.int (nI q))] (fun Γ hC => ?_) (by simp [g_en, lv_args, Value.category])
  refine g_aload_n (n := 1) hC rfl dX6_changed_0 ?_
  refine g_getf (n := 4) (v := .long p) hC gf_X6_35 (m0) (s0) rfl dX6_changed_1 ?_
  refine g_iload_n (n := 5) hC rfl dX6_changed_4 ?_
  refine g_lushrN (n := 6) hC (by omega) dX6_changed_5 ?_
  refine g_lconst (n := 7) (v := 1) hC (by decide) dX6_changed_6 ?_
  refine g_land (n := 8) hC dX6_changed_7 ?_
  refine g_lconst (n := 9) (v := 0) hC (by decide) dX6_changed_8 ?_
  refine g_lcmp_ne (n := 13) (tgt := 21) hC dX6_changed_9 dX6_changed_10 (fun h9 => ?_) (fun h9 => ?_)
  ·
    refine g_iconst (n := 22) (v := (nI 1)) hC (by decide) dX6_changed_21 ?_
    refine g_goto (n := 26) hC dX6_changed_22 ?_
    exact g_zret hC (by rfl) dX6_changed_26 (⟨rI (bI_t (Or.inl (su1_t h9))).symm, rfl, rfl, rfl⟩)
  ·
    refine g_aload_n (n := 14) hC rfl dX6_changed_13 ?_
    refine g_iload_n (n := 15) hC rfl dX6_changed_14 ?_
    refine g_cV (n := 18) hC gv_X6_67 (m0) (s0) (X_rwaveOf K (show rdI K L σ a n c p u f from ⟨⟨m0, m1, m2, m3⟩, s0, s1, s2, s3⟩) hn hq) dX6_changed_15 ?_
    refine g_if_lt (n := 21) (tgt := 25) hC dX6_changed_18 (fun h18 => ?_) (fun h18 => ?_)
    ·
      refine g_iconst (n := 26) (v := (nI 0)) hC (by decide) dX6_changed_25 ?_
      exact g_zret hC (by rfl) dX6_changed_26 (⟨rI (bI_f (fun z => z.elim (fun z => by rw [(su1_0 _).mp h9] at z; cases z) (fun z => z h18))).symm, rfl, rfl, rfl⟩)
    ·
      refine g_iconst (n := 22) (v := (nI 1)) hC (by decide) dX6_changed_21 ?_
      refine g_goto (n := 26) hC dX6_changed_22 ?_
      exact g_zret hC (by rfl) dX6_changed_26 (⟨rI (bI_t (Or.inr h18)).symm, rfl, rfl, rfl⟩)

set_option maxRecDepth 20000 in
theorem X_signsOf (K : GK) {σ : GS} {L : List Nat} {z : Nat} {x : Int32} : gT K yX6_signsOf cX6_signsOf 1 (some .int) 0 [.int x] z L (σ) (some (.int (nI (lnC x)))) (σ) := by
  refine g_intro [some (.int x)] (fun Γ hC => ?_) (by simp [g_en, lv_args, Value.category])
  refine g_iload_n (n := 1) hC rfl dX6_signsOf_0 ?_
  refine g_iconst (n := 2) (v := (-1)) hC (by decide) dX6_signsOf_1 ?_
  refine g_icmp_ne (n := 5) (tgt := 9) hC dX6_signsOf_2 (fun h2 => ?_) (fun h2 => ?_)
  ·
    refine g_iconst (n := 10) (v := (nI 2)) hC (by decide) dX6_signsOf_9 ?_
    exact g_iret hC dX6_signsOf_10 (⟨rI (congrArg nI (if_neg h2).symm), rfl, rfl, rfl⟩)
  ·
    refine g_iconst (n := 6) (v := (nI 1)) hC (by decide) dX6_signsOf_5 ?_
    refine g_goto (n := 10) hC dX6_signsOf_6 ?_
    exact g_iret hC dX6_signsOf_10 (⟨rI (congrArg nI (if_pos h2).symm), rfl, rfl, rfl⟩)

set_option maxRecDepth 20000 in
theorem X_signs (K : GK) {σ : GS} {L : List Nat} {z : Nat} {a n : Nat} {c : Nat → Int32} {p : Int64} {u : Nat → Int64} {f : Nat → Int32} (hr : rdI K L σ a n c p u f) (hn : n ≤ 49) : gT K yX6_signs cX6_signs 1 (some .int) 1 [.ref a] z L (σ) (some (.int (nI (lnC (c 0) + lnC (c 1) + 1)))) (σ) := by
  obtain ⟨⟨m0, m1, m2, m3⟩, s0, s1, s2, s3⟩ := hr
  refine g_intro [some (.ref a)] (fun Γ hC => ?_) (by simp [g_en, lv_args, Value.category])
  refine g_aload_n (n := 1) hC rfl dX6_signs_0 ?_
  refine g_getf (n := 4) (v := .int (c 0)) hC gf_X6_22 (m0) (s0) rfl dX6_signs_1 ?_
  refine g_cS (n := 7) hC gs_X6_71 (X_signsOf K) dX6_signs_4 ?_
  refine g_aload_n (n := 8) hC rfl dX6_signs_7 ?_
  refine g_getf (n := 11) (v := .int (c 1)) hC gf_X6_26 (m0) (s0) rfl dX6_signs_8 ?_
  refine g_cS (n := 14) hC gs_X6_71 (X_signsOf K) dX6_signs_11 ?_
  refine g_iaddN (n := 15) hC dX6_signs_14 ?_
  refine g_iconst (n := 16) (v := (nI 1)) hC (by decide) dX6_signs_15 ?_
  refine g_iaddN (n := 17) hC dX6_signs_16 ?_
  exact g_iret hC dX6_signs_17 (⟨by first | rfl | (simp [*]; done), rfl, rfl, rfl⟩)

set_option maxRecDepth 20000 in
theorem X_signOf (K : GK) {σ : GS} {L : List Nat} {z : Nat} {b : Nat} {w h : Nat} (hbL : b ∈ L) (hsb : σ b = bdA w h) (hw1 : 4 ≤ w) (hw2 : w ≤ 7) (hh1 : 4 ≤ h) (hh2 : h ≤ 7) {x : Int32} {j : Nat} (hj : j ≤ 1) (hx : chOK (w * h) x) : gT K yX6_signOf cX6_signOf 4 (some .char) 2 [.ref b, .int x, .int (nI j)] z L (σ) (some (.int (sgC w x j))) (σ) := by
  have hn : w * h ≤ 49 := Nat.mul_le_mul hw2 hh2
  have hn1 : 16 ≤ w * h := Nat.mul_le_mul hw1 hh1
  refine g_intro [some (.ref b), some (.int x), some (.int (nI j)), none] (fun Γ hC => ?_) (by simp [g_en, lv_args, Value.category])
  refine g_iload_n (n := 1) hC rfl dX6_signOf_0 ?_
  refine g_iconst (n := 2) (v := (-1)) hC (by decide) dX6_signOf_1 ?_
  refine g_icmp_ne (n := 5) (tgt := 8) hC dX6_signOf_2 (fun h2 => ?_) (fun h2 => ?_)
  ·
    obtain ⟨x0, hx1, hx2⟩ := hx.resolve_left h2
    subst hx2
    have h8 := Nat.mod_le x0 w
    have h9 := Nat.div_le_self x0 w
    have hcl : (nI x0).toNatClampNeg = x0 := nI_clamp (by omega)
    refine g_iload_n (n := 9) hC rfl dX6_signOf_8 ?_
    refine g_if_neN (n := 12) (tgt := 23) hC (by omega) dX6_signOf_9 (fun h9 => ?_) (fun h9 => ?_)
    ·
      refine g_bipush (n := 25) (v := (nI 49)) hC (by decide) dX6_signOf_23 ?_
      refine g_aload_n (n := 26) hC rfl dX6_signOf_25 ?_
      refine g_iload_n (n := 27) hC rfl dX6_signOf_26 ?_
      refine g_cV (n := 30) hC gv_X6_83 (hbL) (hsb) (X_rowOf K hbL hsb hw1 hw2 hh1 hh2 (c := x0) (by omega)) dX6_signOf_27 ?_
      refine g_iaddN (n := 31) hC dX6_signOf_30 ?_
      refine g_istore_n (n := 32) (ll1 := [some (.ref b), some (.int (nI x0)), some (.int (nI j)), some (.int (nI (49 + (x0 / w))))]) hC dX6_signOf_31 rfl ?_
      refine g_iload_n (n := 33) hC rfl dX6_signOf_32 ?_
      refine g_i2c (n := 34) hC (i2cN (by omega)) dX6_signOf_33 ?_
      exact g_zret hC (by exact (pk_charN (by omega)).1) dX6_signOf_34 (⟨rI (by rw [sgC, if_neg h2, if_neg (show ¬ j = 0 by omega), hcl]), rfl, rfl, rfl⟩)
    ·
      refine g_bipush (n := 14) (v := (nI 97)) hC (by decide) dX6_signOf_12 ?_
      refine g_aload_n (n := 15) hC rfl dX6_signOf_14 ?_
      refine g_iload_n (n := 16) hC rfl dX6_signOf_15 ?_
      refine g_cV (n := 19) hC gv_X6_78 (hbL) (hsb) (X_columnOf K hbL hsb hw1 hw2 hh1 hh2 (c := x0) (by omega)) dX6_signOf_16 ?_
      refine g_iaddN (n := 20) hC dX6_signOf_19 ?_
      refine g_goto (n := 31) hC dX6_signOf_20 ?_
      refine g_istore_n (n := 32) (ll1 := [some (.ref b), some (.int (nI x0)), some (.int (nI j)), some (.int (nI (97 + (x0 % w))))]) hC dX6_signOf_31 rfl ?_
      refine g_iload_n (n := 33) hC rfl dX6_signOf_32 ?_
      refine g_i2c (n := 34) hC (i2cN (by omega)) dX6_signOf_33 ?_
      exact g_zret hC (by exact (pk_charN (by omega)).1) dX6_signOf_34 (⟨rI (by rw [sgC, if_neg h2, if_pos (show j = 0 by omega), hcl]), rfl, rfl, rfl⟩)
  ·
    refine g_bipush (n := 7) (v := (nI 45)) hC (by decide) dX6_signOf_5 ?_
    exact g_zret hC (by rfl) dX6_signOf_7 (⟨rI (by rw [sgC, if_pos h2]), rfl, rfl, rfl⟩)

set_option maxRecDepth 20000 in
theorem X_sign1 (K : GK) {σ : GS} {L : List Nat} {z : Nat} {a n : Nat} {c : Nat → Int32} {p : Int64} {u : Nat → Int64} {f : Nat → Int32} (hr : rdI K L σ a n c p u f) (hn : n ≤ 49) {b : Nat} {w h : Nat} (hbL : b ∈ L) (hsb : σ b = bdA w h) (hw1 : 4 ≤ w) (hw2 : w ≤ 7) (hh1 : 4 ≤ h) (hh2 : h ≤ 7) (hnn : n = w * h) (hc0 : chOK (w * h) (c 0)) (hc1 : chOK (w * h) (c 1)) {k : Nat} (hk : k < lnC (c 0)) : gT K yX6_sign cX6_sign 4 (some .char) 3 [.ref a, .ref b, .int (nI k)] z L (σ) (some (.int (rsg w c k))) (σ) := by
  have hn : w * h ≤ 49 := Nat.mul_le_mul hw2 hh2
  have hn1 : 16 ≤ w * h := Nat.mul_le_mul hw1 hh1
  obtain ⟨⟨m0, m1, m2, m3⟩, s0, s1, s2, s3⟩ := hr
  have hl0 := lnC_le (c 0)
  have hl1 := lnC_le (c 1)
  refine g_intro [some (.ref a), some (.ref b), some (.int (nI k)), none] (fun Γ hC => ?_) (by simp [g_en, lv_args, Value.category])
  refine g_iload_n (n := 1) hC rfl dX6_sign_0 ?_
  refine g_aload_n (n := 2) hC rfl dX6_sign_1 ?_
  refine g_getf (n := 5) (v := .int (c 0)) hC gf_X6_22 (m0) (s0) rfl dX6_sign_2 ?_
  refine g_cS (n := 8) hC gs_X6_71 (X_signsOf K) dX6_sign_5 ?_
  refine g_isub (n := 9) hC dX6_sign_8 ?_
  refine g_istore_n (n := 10) (ll1 := [some (.ref a), some (.ref b), some (.int (nI k)), some (.int ((nI k) - (nI (lnC (c 0)))))]) hC dX6_sign_9 rfl ?_
  refine g_iload_n (n := 11) hC rfl dX6_sign_10 ?_
  refine g_if_ge (n := 14) (tgt := 24) hC dX6_sign_11 (fun h11 => absurd h11 (nI_sub_neg hk (by omega))) (fun h11 => ?_)
  refine g_aload_n (n := 15) hC rfl dX6_sign_14 ?_
  refine g_aload_n (n := 16) hC rfl dX6_sign_15 ?_
  refine g_getf (n := 19) (v := .int (c 0)) hC gf_X6_22 (m0) (s0) rfl dX6_sign_16 ?_
  refine g_iload_n (n := 20) hC rfl dX6_sign_19 ?_
  refine g_cS (n := 23) hC gs_X6_74 (X_signOf K hbL hsb hw1 hw2 hh1 hh2 (x := c 0) (j := k) (by omega) hc0) dX6_sign_20 ?_
  exact g_zret hC (sgC_nb (by omega) (by omega) hc0) dX6_sign_23 (⟨rI (if_pos hk).symm, rfl, rfl, rfl⟩)

set_option maxRecDepth 20000 in
theorem X_sign2 (K : GK) {σ : GS} {L : List Nat} {z : Nat} {a n : Nat} {c : Nat → Int32} {p : Int64} {u : Nat → Int64} {f : Nat → Int32} (hr : rdI K L σ a n c p u f) (hn : n ≤ 49) {b : Nat} {w h : Nat} (hbL : b ∈ L) (hsb : σ b = bdA w h) (hw1 : 4 ≤ w) (hw2 : w ≤ 7) (hh1 : 4 ≤ h) (hh2 : h ≤ 7) (hnn : n = w * h) (hc0 : chOK (w * h) (c 0)) (hc1 : chOK (w * h) (c 1)) {k : Nat} (hk : lnC (c 0) ≤ k) (hk2 : k < 100) : gT K yX6_sign cX6_sign 4 (some .char) 3 [.ref a, .ref b, .int (nI k)] z L (σ) (some (.int (rsg w c k))) (σ) := by
  have hn : w * h ≤ 49 := Nat.mul_le_mul hw2 hh2
  have hn1 : 16 ≤ w * h := Nat.mul_le_mul hw1 hh1
  obtain ⟨⟨m0, m1, m2, m3⟩, s0, s1, s2, s3⟩ := hr
  have hl0 := lnC_le (c 0)
  have hl1 := lnC_le (c 1)
  refine g_intro [some (.ref a), some (.ref b), some (.int (nI k)), none] (fun Γ hC => ?_) (by simp [g_en, lv_args, Value.category])
  refine g_iload_n (n := 1) hC rfl dX6_sign_0 ?_
  refine g_aload_n (n := 2) hC rfl dX6_sign_1 ?_
  refine g_getf (n := 5) (v := .int (c 0)) hC gf_X6_22 (m0) (s0) rfl dX6_sign_2 ?_
  refine g_cS (n := 8) hC gs_X6_71 (X_signsOf K) dX6_sign_5 ?_
  refine g_isubN (n := 9) hC (by omega) dX6_sign_8 ?_
  refine g_istore_n (n := 10) (ll1 := [some (.ref a), some (.ref b), some (.int (nI k)), some (.int (nI (k - (lnC (c 0)))))]) hC dX6_sign_9 rfl ?_
  refine g_iload_n (n := 11) hC rfl dX6_sign_10 ?_
  refine g_if_geN (n := 14) (tgt := 24) hC (by omega) dX6_sign_11 (fun h11 => ?_) (fun h11 => h11.elim)
  refine g_iload_n (n := 25) hC rfl dX6_sign_24 ?_
  refine g_aload_n (n := 26) hC rfl dX6_sign_25 ?_
  refine g_getf (n := 29) (v := .int (c 1)) hC gf_X6_26 (m0) (s0) rfl dX6_sign_26 ?_
  refine g_cS (n := 32) hC gs_X6_71 (X_signsOf K) dX6_sign_29 ?_
  refine g_icmp_geN (n := 35) (tgt := 47) hC (by omega) (by omega) dX6_sign_32 (fun h32 => ?_) (fun h32 => ?_)
  ·
    refine g_bipush (n := 49) (v := (nI 59)) hC (by decide) dX6_sign_47 ?_
    exact g_zret hC (by first | rfl | exact sgC_nb (by omega) (by omega) hc1) dX6_sign_49 (⟨rI (by rw [rsg, if_neg (by omega), if_neg (by omega)]), rfl, rfl, rfl⟩)
  ·
    refine g_aload_n (n := 36) hC rfl dX6_sign_35 ?_
    refine g_aload_n (n := 37) hC rfl dX6_sign_36 ?_
    refine g_getf (n := 40) (v := .int (c 1)) hC gf_X6_26 (m0) (s0) rfl dX6_sign_37 ?_
    refine g_iload_n (n := 41) hC rfl dX6_sign_40 ?_
    refine g_cS (n := 44) hC gs_X6_74 (X_signOf K hbL hsb hw1 hw2 hh1 hh2 (x := c 1) (j := k - lnC (c 0)) (by omega) hc1) dX6_sign_41 ?_
    refine g_goto (n := 49) hC dX6_sign_44 ?_
    exact g_zret hC (by first | rfl | exact sgC_nb (by omega) (by omega) hc1) dX6_sign_49 (⟨rI (by rw [rsg, if_neg (by omega), if_pos (by omega)]), rfl, rfl, rfl⟩)
