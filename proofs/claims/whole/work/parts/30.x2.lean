/-! ===== the class: a position ===== -/
def psS (n : Nat) (f : Nat → Int32) : Nat → Int64 := fun k => if k < 6 then bitsF (fun i => decide (f i = nI k)) n else 0
theorem psS_at {n k : Nat} {f : Nat → Int32} (hk : k ≤ 5) : psS n f k = bitsF (fun i => decide (f i = nI k)) n := if_pos (by omega)
def psO (a : Nat) (f : Nat → Int32) : va_E := .inr (4, [.ref (a + 1), .int (f 147), .int (f 148)])
def ownF (n : Nat) (f : Nat → Int32) (p : Nat) : Int64 := psS n f (1 + p) ||| psS n f (3 + p)
theorem psS_tb {n k c : Nat} {f : Nat → Int32} (hk : k ≤ 5) (hn : n ≤ 64) (hc : c < n) : tb (psS n f k) c = decide (f c = nI k) := by
  rw [psS_at hk, tb_bitsF _ _ hn]; simp [hc]
theorem ad_f {x : Int64} {c : Nat} {y : Int32} (h : tb x c = decide (y = nI 0)) (h1 : su x c &&& 1 = 0) (h2 : y = 0) : False := by
  rw [(su1_0 _).mp h1, h2] at h
  exact absurd h (by decide)
theorem ad_t {x : Int64} {c : Nat} {y : Int32} (h : tb x c = decide (y = nI 0)) (h1 : ¬ su x c &&& 1 = 0) : y = 0 := by
  by_cases q : y = 0
  · exact q
  · exact absurd ((su1_0 _).mpr (h.trans (decide_eq_false q))) h1
theorem psS_lt {n k c : Nat} {f : Nat → Int32} (hn : n ≤ 64) (h : tb (psS n f k) c = true) : c < n := by
  by_cases hk : k ≤ 5
  · rw [psS_at hk] at h; exact bitsF_lt hn h
  · rw [psS, if_neg (by omega), tb_0] at h; cases h

set_option maxRecDepth 20000 in
theorem X_captured (K : GK) {σ : GS} {L : List Nat} {z : Nat} {a n : Nat} {f : Nat → Int32} (haL : a ∈ L) (haL1 : a + 1 ∈ L) (hsa : σ a = psO a f) (hss : σ (a + 1) = lA K 6 (psS n f)) (hn : n ≤ 49) {p : Nat} (hp : p ≤ 1) : gT K yX4_captured cX4_captured 2 (some .int) 0 [.ref a, .int (nI p)] z L (σ) (some (.int (f (147 + p)))) (σ) := by
  refine g_intro [some (.ref a), some (.int (nI p))] (fun Γ hC => ?_) (by simp [g_en, lv_args, Value.category])
  refine g_iload_n (n := 1) hC rfl dX4_captured_0 ?_
  refine g_if_neN (n := 4) (tgt := 11) hC (by omega) dX4_captured_1 (fun h1 => ?_) (fun h1 => ?_)
  ·
    refine g_aload_n (n := 12) hC rfl dX4_captured_11 ?_
    refine g_getf (n := 15) (v := .int (f 148)) hC gf_X4_19 (haL) (hsa) rfl dX4_captured_12 ?_
    exact g_iret hC dX4_captured_15 (⟨rI (by rw [show p = 1 by omega]), rfl, rfl, rfl⟩)
  ·
    refine g_aload_n (n := 5) hC rfl dX4_captured_4 ?_
    refine g_getf (n := 8) (v := .int (f 147)) hC gf_X4_15 (haL) (hsa) rfl dX4_captured_5 ?_
    refine g_goto (n := 15) hC dX4_captured_8 ?_
    exact g_iret hC dX4_captured_15 (⟨rI (by rw [show p = 0 by omega]), rfl, rfl, rfl⟩)

set_option maxRecDepth 20000 in
theorem X_in (K : GK) {σ : GS} {L : List Nat} {z : Nat} {a n : Nat} {f : Nat → Int32} (haL : a ∈ L) (haL1 : a + 1 ∈ L) (hsa : σ a = psO a f) (hss : σ (a + 1) = lA K 6 (psS n f)) (hn : n ≤ 49) {k : Nat} (hk : k ≤ 5) : gT K yX4_in cX4_in 2 (some .long) 0 [.ref a, .int (nI k)] z L (σ) (some (.long (psS n f k))) (σ) := by
  refine g_intro [some (.ref a), some (.int (nI k))] (fun Γ hC => ?_) (by simp [g_en, lv_args, Value.category])
  refine g_iload_n (n := 1) hC rfl dX4_in_0 ?_
  refine g_if_ltN (n := 4) (tgt := 19) hC (by omega) dX4_in_1 (fun h1 => h1.elim) (fun h1 => ?_)
  refine g_iload_n (n := 5) hC rfl dX4_in_4 ?_
  refine g_bipush (n := 7) (v := (nI 6)) hC (by decide) dX4_in_5 ?_
  refine g_icmp_geN (n := 10) (tgt := 19) hC (by omega) (by omega) dX4_in_7 (fun h7 => absurd h7 (by omega)) (fun h7 => ?_)
  refine g_aload_n (n := 11) hC rfl dX4_in_10 ?_
  refine g_getf (n := 14) (v := .ref (a + 1)) hC gf_X4_9 (haL) (hsa) rfl dX4_in_11 ?_
  refine g_iload_n (n := 15) hC rfl dX4_in_14 ?_
  refine g_lald (n := 16) (j := k) hC (haL1) (hss) (rfl) (by omega) (by omega) dX4_in_15 ?_
  refine g_goto (n := 20) hC dX4_in_16 ?_
  exact g_lret hC dX4_in_20 (⟨by first | rfl | (simp [*]; done), rfl, rfl, rfl⟩)

set_option maxRecDepth 20000 in
theorem X_own (K : GK) {σ : GS} {L : List Nat} {z : Nat} {a n : Nat} {f : Nat → Int32} (haL : a ∈ L) (haL1 : a + 1 ∈ L) (hsa : σ a = psO a f) (hss : σ (a + 1) = lA K 6 (psS n f)) (hn : n ≤ 49) {p : Nat} (hp : p ≤ 1) : gT K yX4_own cX4_own 2 (some .long) 0 [.ref a, .int (nI p)] z L (σ) (some (.long (ownF n f p))) (σ) := by
  refine g_intro [some (.ref a), some (.int (nI p))] (fun Γ hC => ?_) (by simp [g_en, lv_args, Value.category])
  refine g_iload_n (n := 1) hC rfl dX4_own_0 ?_
  refine g_if_neN (n := 4) (tgt := 20) hC (by omega) dX4_own_1 (fun h1 => ?_) (fun h1 => ?_)
  ·
    refine g_aload_n (n := 21) hC rfl dX4_own_20 ?_
    refine g_getf (n := 24) (v := .ref (a + 1)) hC gf_X4_9 (haL) (hsa) rfl dX4_own_21 ?_
    refine g_iconst (n := 25) (v := (nI 2)) hC (by decide) dX4_own_24 ?_
    refine g_lald (n := 26) (j := 2) hC (haL1) (hss) (rfl) (by omega) (by omega) dX4_own_25 ?_
    refine g_aload_n (n := 27) hC rfl dX4_own_26 ?_
    refine g_getf (n := 30) (v := .ref (a + 1)) hC gf_X4_9 (haL) (hsa) rfl dX4_own_27 ?_
    refine g_iconst (n := 31) (v := (nI 4)) hC (by decide) dX4_own_30 ?_
    refine g_lald (n := 32) (j := 4) hC (haL1) (hss) (rfl) (by omega) (by omega) dX4_own_31 ?_
    refine g_lor (n := 33) hC dX4_own_32 ?_
    exact g_lret hC dX4_own_33 (⟨rL (by rw [show p = 1 by omega]; rfl), rfl, rfl, rfl⟩)
  ·
    refine g_aload_n (n := 5) hC rfl dX4_own_4 ?_
    refine g_getf (n := 8) (v := .ref (a + 1)) hC gf_X4_9 (haL) (hsa) rfl dX4_own_5 ?_
    refine g_iconst (n := 9) (v := (nI 1)) hC (by decide) dX4_own_8 ?_
    refine g_lald (n := 10) (j := 1) hC (haL1) (hss) (rfl) (by omega) (by omega) dX4_own_9 ?_
    refine g_aload_n (n := 11) hC rfl dX4_own_10 ?_
    refine g_getf (n := 14) (v := .ref (a + 1)) hC gf_X4_9 (haL) (hsa) rfl dX4_own_11 ?_
    refine g_iconst (n := 15) (v := (nI 3)) hC (by decide) dX4_own_14 ?_
    refine g_lald (n := 16) (j := 3) hC (haL1) (hss) (rfl) (by omega) (by omega) dX4_own_15 ?_
    refine g_lor (n := 17) hC dX4_own_16 ?_
    refine g_goto (n := 33) hC dX4_own_17 ?_
    exact g_lret hC dX4_own_33 (⟨rL (by rw [show p = 0 by omega]; rfl), rfl, rfl, rfl⟩)

set_option maxRecDepth 20000 in
theorem X_admits (K : GK) {σ : GS} {L : List Nat} {z : Nat} {a n : Nat} {f : Nat → Int32} (haL : a ∈ L) (haL1 : a + 1 ∈ L) (hsa : σ a = psO a f) (hss : σ (a + 1) = lA K 6 (psS n f)) (hn : n ≤ 49) {x : Int32} (hx : chOK n x) : gT K yX4_admits cX4_admits 2 (some .boolean) 0 [.ref a, .int x] z L (σ) (some (.int (bI (mayF f x)))) (σ) := by
  refine g_intro [some (.ref a), some (.int x)] (fun Γ hC => ?_) (by simp [g_en, lv_args, Value.category])
  refine g_iload_n (n := 1) hC rfl dX4_admits_0 ?_
  refine g_iconst (n := 2) (v := (-1)) hC (by decide) dX4_admits_1 ?_
  refine g_icmp_eq (n := 5) (tgt := 20) hC dX4_admits_2 (fun h2 => ?_) (fun h2 => ?_)
  ·
    refine g_iconst (n := 21) (v := (nI 1)) hC (by decide) dX4_admits_20 ?_
    refine g_goto (n := 25) hC dX4_admits_21 ?_
    exact g_zret hC (by rfl) dX4_admits_25 (⟨rI (bI_t (Or.inl h2)).symm, rfl, rfl, rfl⟩)
  ·
    obtain ⟨c, hc, hxc⟩ := hx.resolve_left h2
    subst hxc
    have hcl : (nI c).toNatClampNeg = c := nI_clamp (by omega)
    have htb := psS_tb (k := 0) (f := f) (by omega) (show n ≤ 64 by omega) hc
    refine g_aload_n (n := 6) hC rfl dX4_admits_5 ?_
    refine g_getf (n := 9) (v := .ref (a + 1)) hC gf_X4_9 (haL) (hsa) rfl dX4_admits_6 ?_
    refine g_iconst (n := 10) (v := (nI 0)) hC (by decide) dX4_admits_9 ?_
    refine g_lald (n := 11) (j := 0) hC (haL1) (hss) (rfl) (by omega) (by omega) dX4_admits_10 ?_
    refine g_iload_n (n := 12) hC rfl dX4_admits_11 ?_
    refine g_lushrN (n := 13) hC (by omega) dX4_admits_12 ?_
    refine g_lconst (n := 14) (v := 1) hC (by decide) dX4_admits_13 ?_
    refine g_land (n := 15) hC dX4_admits_14 ?_
    refine g_lconst (n := 16) (v := 0) hC (by decide) dX4_admits_15 ?_
    refine g_lcmp_eq (n := 20) (tgt := 24) hC dX4_admits_16 dX4_admits_17 (fun h16 => ?_) (fun h16 => ?_)
    ·
      refine g_iconst (n := 25) (v := (nI 0)) hC (by decide) dX4_admits_24 ?_
      exact g_zret hC (by rfl) dX4_admits_25 (⟨rI (bI_f (fun q => ad_f htb h16 (hcl ▸ q.resolve_left h2))).symm, rfl, rfl, rfl⟩)
    ·
      refine g_iconst (n := 21) (v := (nI 1)) hC (by decide) dX4_admits_20 ?_
      refine g_goto (n := 25) hC dX4_admits_21 ?_
      exact g_zret hC (by rfl) dX4_admits_25 (⟨rI (bI_t (Or.inr (by rw [hcl]; exact ad_t htb h16))).symm, rfl, rfl, rfl⟩)
