theorem rgM_ge {w h : Nat} (hw : 1 ≤ w) (hn : w * h ≤ 64) {x : Int64} (hx : ∀ i, tb x i = true → i < w * h) {d : Nat} (hd : tb x d = true) : ∀ c, tb (rgY w h x c) d = true → ct (tb (rgn w h x d)) 49 ≤ rgM w h x c
  | 0, hy => by rw [rgY, tb_0] at hy; cases hy
  | c + 1, hy => by
    by_cases q : tb x c = true ∧ tb (rgY w h x c) c = false
    · obtain ⟨k1, -, k3⟩ := rgY_pick q
      rw [k1, tb_or, Bool.or_eq_true] at hy
      rw [k3]
      rcases hy with hy | hy
      · exact Nat.le_trans (rgM_ge hw hn hx hd c hy) (Nat.le_max_left _ _)
      · rw [rgn_eq hw hn hx q.1 ((tb_rgn hw hn hx q.1 d).mp hy)]
        exact Nat.le_max_right _ _
    · obtain ⟨k1, -, k3⟩ := rgY_skip q
      rw [k1] at hy
      rw [k3]
      exact rgM_ge hw hn hx hd c hy
theorem rgM_s {w h : Nat} (hw : 1 ≤ w) (hn : w * h ≤ 49) {x : Int64} (hx : ∀ i, tb x i = true → i < w * h) {c : Nat} (hc : c < 64) : max (rgM w h x c) (ct (tb (fld w h x (sl 1 c &&& x))) 64) = rgM w h x (c + 1) := by
  rw [fld_at hc]
  by_cases q1 : tb x c = true
  · rw [if_pos q1, ct_64 (n := 49) (by omega) (fun i hi => by have := hx i (comp_in q1 ((tb_rgn hw (by omega) hx q1 i).mp hi)); omega)]
    by_cases q2 : tb (rgY w h x c) c = false
    · exact (rgY_pick ⟨q1, q2⟩).2.2.symm
    · rw [(rgY_skip (fun z => q2 z.2)).2.2]
      exact Nat.max_eq_left (rgM_ge hw (by omega) hx q1 c (by simpa using q2))
  · rw [if_neg q1, (rgY_skip (fun z => q1 z.1)).2.2, show ct (tb 0) 64 = 0 from by decide +kernel]
    exact Nat.max_eq_left (Nat.zero_le _)
theorem mx_nI {a b : Nat} (ha : a < 2 ^ 31) (hb : b < 2 ^ 31) : (if nI a < nI b then nI b else nI a) = nI (max a b) := by
  by_cases q : a < b
  · rw [if_pos (by rw [Int32.lt_iff_toInt_lt, nI_toInt ha, nI_toInt hb]; omega), Nat.max_eq_right (by omega)]
  · rw [if_neg (by rw [Int32.lt_iff_toInt_lt, nI_toInt ha, nI_toInt hb]; omega), Nat.max_eq_left (by omega)]

set_option maxRecDepth 20000 in
set_option maxHeartbeats 1000000 in
theorem X_largestRegion (K : GK) {σ : GS} {L : List Nat} {z : Nat} {b : Nat} {w h : Nat} (hbL : b ∈ L) (hsb : σ b = bdA w h) (hw1 : 4 ≤ w) (hw2 : w ≤ 7) (hh1 : 4 ≤ h) (hh2 : h ≤ 7) {a : Nat} {f : Nat → Int32} (haL : a ∈ L) (haL1 : a + 1 ∈ L) (hsa : σ a = psO a f) (hss : σ (a + 1) = lA K 6 (psS (w * h) f)) {p : Nat} (hp : p ≤ 1) : gT K yX4_largestRegion cX4_largestRegion 7 (some .int) 2 [.ref a, .ref b, .int (nI p)] z L (σ) (some (.int (nI (rgM w h (outF f (w * h) p) (w * h))))) (σ) := by
  have hn : w * h ≤ 49 := Nat.mul_le_mul hw2 hh2
  have hn1 : 16 ≤ w * h := Nat.mul_le_mul hw1 hh1
  have hX : ∀ i, tb (outF f (w * h) p) i = true → i < w * h := fun i hi => outF_lt (by omega) hi
  refine g_intro [some (.ref a), some (.ref b), some (.int (nI p)), none, none, none, none] (fun Γ hC => ?_) (by simp [g_en, lv_args, Value.category])
  refine g_aload_n (n := 1) hC rfl dX4_largestRegion_0 ?_
  refine g_aload_n (n := 2) hC rfl dX4_largestRegion_1 ?_
  refine g_iload_n (n := 3) hC rfl dX4_largestRegion_2 ?_
  refine g_cV (n := 6) hC gv_X4_56 (haL) (hsa) (X_open K hbL hsb hw1 hw2 hh1 hh2 haL haL1 hsa hss hp) dX4_largestRegion_3 ?_
  refine g_lstore_n (n := 7) (ll1 := [some (.ref a), some (.ref b), some (.int (nI p)), some (.long (outF f (w * h) p)), none, none, none]) hC dX4_largestRegion_6 rfl ?_
  refine g_iconst (n := 8) (v := (nI 0)) hC (by decide) dX4_largestRegion_7 ?_
  refine g_istore (n := 10) (ll1 := [some (.ref a), some (.ref b), some (.int (nI p)), some (.long (outF f (w * h) p)), none, some (.int (nI 0)), none]) hC dX4_largestRegion_8 rfl ?_
  refine g_iconst (n := 11) (v := (nI 0)) hC (by decide) dX4_largestRegion_10 ?_
  refine g_istore (n := 13) (ll1 := [some (.ref a), some (.ref b), some (.int (nI p)), some (.long (outF f (w * h) p)), none, some (.int (nI 0)), some (.int (nI 0))]) hC dX4_largestRegion_11 rfl ?_
  have lp13 : ∀ (n9 : Nat) (c : Nat) (hc : c ≤ w * h) (y5 : Int32) (ey5 : y5 = (nI (rgM w h (outF f (w * h) p) c))) (y6 : Int32) (ey6 : y6 = (nI c)) (hm9 : w * h - c < n9), G K Γ (z, 0, 0, L) (σ) 13 [some (.ref a), some (.ref b), some (.int (nI p)), some (.long (outF f (w * h) p)), none, some (.int y5), some (.int y6)] [] := by
    intro n9
    induction n9 with
    | zero =>
      intro c hc y5 ey5 y6 ey6 hm9
      exact absurd hm9 (Nat.not_lt_zero _)
    | succ n9 ih13 =>
      intro c hc y5 ey5 y6 ey6 hm9
      subst ey5
      subst ey6
      refine g_iload (n := 15) hC rfl dX4_largestRegion_13 ?_
      refine g_aload_n (n := 16) hC rfl dX4_largestRegion_15 ?_
      refine g_getf (n := 19) (v := .int (nI (w * h))) hC gf_X4_60 (hbL) (hsb) rfl dX4_largestRegion_16 ?_
      refine g_icmp_geN (n := 22) (tgt := 47) hC (by omega) (by omega) dX4_largestRegion_19 (fun h19 => ?_) (fun h19 => ?_)
      ·
        refine g_iload (n := 49) hC rfl dX4_largestRegion_47 ?_
        exact g_iret hC dX4_largestRegion_49 (⟨rI (by rw [show c = w * h by omega]), rfl, rfl, rfl⟩)
      ·
        refine g_iload (n := 24) hC rfl dX4_largestRegion_22 ?_
        refine g_aload_n (n := 25) hC rfl dX4_largestRegion_24 ?_
        refine g_lconst (n := 26) (v := 1) hC (by decide) dX4_largestRegion_25 ?_
        refine g_iload (n := 28) hC rfl dX4_largestRegion_26 ?_
        refine g_lshlN (n := 29) hC (by omega) dX4_largestRegion_28 ?_
        refine g_lload_n (n := 30) hC rfl dX4_largestRegion_29 ?_
        refine g_cV (n := 33) hC gv_X4_63 (hbL) (hsb) (X_flood K hbL hsb hw1 hw2 hh1 hh2) dX4_largestRegion_30 ?_
        refine g_cS (n := 36) hC gs_X4_32 (X_bitCount K) dX4_largestRegion_33 ?_
        have hct := ct_le (tb (fld w h (outF f (w * h) p) (sl 1 c &&& (outF f (w * h) p)))) 64
        have hrm := rgM_le (w := w) (h := h) (x := outF f (w * h) p) c
        refine g_mmax (n := 39) hC (by exact gmem (i := 714) (by decide +kernel) (by decide +kernel)) dX4_largestRegion_36 ?_
        refine G.eqi ((mx_nI (by omega) (by omega)).trans (congrArg nI (rgM_s (by omega) (by omega) hX (by omega)))) ?_
        refine g_istore (n := 41) (ll1 := [some (.ref a), some (.ref b), some (.int (nI p)), some (.long (outF f (w * h) p)), none, some (.int (nI (rgM w h (outF f (w * h) p) (c + 1)))), some (.int (nI c))]) hC dX4_largestRegion_39 rfl ?_
        refine g_iinc (n := 44) (ll1 := [some (.ref a), some (.ref b), some (.int (nI p)), some (.long (outF f (w * h) p)), none, some (.int (nI (rgM w h (outF f (w * h) p) (c + 1)))), some (.int (nI (c + 1)))]) hC dX4_largestRegion_41 rfl (nI_inc _) rfl ?_
        refine g_goto (n := 13) hC dX4_largestRegion_44 ?_
        exact ih13 (c + 1) (by omega) _ (by first | rfl | (simp [*]; done)) _ (by first | rfl | (simp [*]; done)) (by omega)
  exact lp13 _ 0 (by omega) _ (by first | rfl | (simp [*]; done)) _ (by first | rfl | (simp [*]; done)) (Nat.lt_succ_self _)
