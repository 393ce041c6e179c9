theorem rgn_ne {w h : Nat} (hw : 1 ≤ w) (hn : w * h ≤ 64) {x : Int64} {c : Nat} (hx : ∀ i, tb x i = true → i < w * h) (hc : tb x c = true) : ¬ rgn w h x c = 0 := fun q => by
  have h1 := rgn_self hw hn hx hc
  rw [q, tb_0] at h1
  cases h1
theorem fld_at {w h : Nat} {x : Int64} {c : Nat} (hc : c < 64) : fld w h x (sl 1 c &&& x) = if tb x c = true then rgn w h x c else 0 := by
  cases e : tb x c
  · simp only [Bool.false_eq_true, if_false]; exact fld_out e
  · simp only [if_true]; exact fld_in e hc
theorem rg_flood {w h : Nat} (hw : 1 ≤ w) (hn : w * h ≤ 64) {x : Int64} (hx : ∀ i, tb x i = true → i < w * h) {c : Nat} (hc : c < 64) : fld w h (x &&& (rgY w h x c ^^^ (-1))) (sl 1 c &&& (x &&& (rgY w h x c ^^^ (-1)))) = if tb x c = true ∧ tb (rgY w h x c) c = false then rgn w h x c else 0 := by
  rw [fld_at hc]
  by_cases q : tb x c = true ∧ tb (rgY w h x c) c = false
  · rw [if_pos (tb_less.mpr q), if_pos q, rgn_less hw hn hx (rgY_clo hw hn hx c).2 q.1 q.2]
  · rw [if_neg (fun z => q (tb_less.mp z)), if_neg q]
theorem rg_op {w h : Nat} {x : Int64} {c : Nat} : x &&& (rgY w h x c ^^^ (-1)) &&& ((if tb x c = true ∧ tb (rgY w h x c) c = false then rgn w h x c else 0) ^^^ (-1)) = x &&& (rgY w h x (c + 1) ^^^ (-1)) := by
  by_cases q : tb x c = true ∧ tb (rgY w h x c) c = false
  · rw [if_pos q, rgY, if_pos q]; exact and_not2 _ _ _
  · rw [if_neg q, rgY, if_neg q]
    apply tb_ext
    intro i hi
    simp [tb_and, tb_not, tb_0, hi]
theorem rg_c1 {w h : Nat} (hw : 1 ≤ w) (hn : w * h ≤ 64) {x : Int64} (hx : ∀ i, tb x i = true → i < w * h) {c : Nat} (h0 : ¬ (if tb x c = true ∧ tb (rgY w h x c) c = false then rgn w h x c else 0) = 0) : rgC w h x c + 1 = rgC w h x (c + 1) := by
  by_cases q : tb x c = true ∧ tb (rgY w h x c) c = false
  · exact (rgY_pick q).2.1.symm
  · exact absurd (if_neg q) h0
theorem rg_c0 {w h : Nat} (hw : 1 ≤ w) (hn : w * h ≤ 64) {x : Int64} (hx : ∀ i, tb x i = true → i < w * h) {c : Nat} (h0 : (if tb x c = true ∧ tb (rgY w h x c) c = false then rgn w h x c else 0) = 0) : rgC w h x c + 0 = rgC w h x (c + 1) := by
  by_cases q : tb x c = true ∧ tb (rgY w h x c) c = false
  · rw [if_pos q] at h0; exact absurd h0 (rgn_ne hw hn hx q.1)
  · exact (rgY_skip q).2.1.symm

set_option maxRecDepth 20000 in
set_option maxHeartbeats 1000000 in
theorem X_regions (K : GK) {σ : GS} {L : List Nat} {z : Nat} {b : Nat} {w h : Nat} (hbL : b ∈ L) (hsb : σ b = bdA w h) (hw1 : 4 ≤ w) (hw2 : w ≤ 7) (hh1 : 4 ≤ h) (hh2 : h ≤ 7) {a : Nat} {f : Nat → Int32} (haL : a ∈ L) (haL1 : a + 1 ∈ L) (hsa : σ a = psO a f) (hss : σ (a + 1) = lA K 6 (psS (w * h) f)) {p : Nat} (hp : p ≤ 1) : gT K yX4_regions cX4_regions 9 (some .int) 2 [.ref a, .ref b, .int (nI p)] z L (σ) (some (.int (nI (rgC w h (outF f (w * h) p) (w * h))))) (σ) := by
  have hn : w * h ≤ 49 := Nat.mul_le_mul hw2 hh2
  have hn1 : 16 ≤ w * h := Nat.mul_le_mul hw1 hh1
  have hX : ∀ i, tb (outF f (w * h) p) i = true → i < w * h := fun i hi => outF_lt (by omega) hi
  refine g_intro [some (.ref a), some (.ref b), some (.int (nI p)), none, none, none, none, none, none] (fun Γ hC => ?_) (by simp [g_en, lv_args, Value.category])
  refine g_aload_n (n := 1) hC rfl dX4_regions_0 ?_
  refine g_aload_n (n := 2) hC rfl dX4_regions_1 ?_
  refine g_iload_n (n := 3) hC rfl dX4_regions_2 ?_
  refine g_cV (n := 6) hC gv_X4_56 (haL) (hsa) (X_open K hbL hsb hw1 hw2 hh1 hh2 haL haL1 hsa hss hp) dX4_regions_3 ?_
  refine g_lstore_n (n := 7) (ll1 := [some (.ref a), some (.ref b), some (.int (nI p)), some (.long (outF f (w * h) p)), none, none, none, none, none]) hC dX4_regions_6 rfl ?_
  refine g_iconst (n := 8) (v := (nI 0)) hC (by decide) dX4_regions_7 ?_
  refine g_istore (n := 10) (ll1 := [some (.ref a), some (.ref b), some (.int (nI p)), some (.long (outF f (w * h) p)), none, some (.int (nI 0)), none, none, none]) hC dX4_regions_8 rfl ?_
  refine g_iconst (n := 11) (v := (nI 0)) hC (by decide) dX4_regions_10 ?_
  refine g_istore (n := 13) (ll1 := [some (.ref a), some (.ref b), some (.int (nI p)), some (.long (outF f (w * h) p)), none, some (.int (nI 0)), some (.int (nI 0)), none, none]) hC dX4_regions_11 rfl ?_
  have lp13 : ∀ (n9 : Nat) (c : Nat) (hc : c ≤ w * h) (y3 : Int64) (ey3 : y3 = ((outF f (w * h) p) &&& (rgY w h (outF f (w * h) p) c ^^^ (-1)))) (y5 : Int32) (ey5 : y5 = (nI (rgC w h (outF f (w * h) p) c))) (y6 : Int32) (ey6 : y6 = (nI c)) (hm9 : w * h - c < n9), G K Γ (z, 0, 0, L) (σ) 13 [some (.ref a), some (.ref b), some (.int (nI p)), some (.long y3), none, some (.int y5), some (.int y6), none, none] [] := by
    intro n9
    induction n9 with
    | zero =>
      intro c hc y3 ey3 y5 ey5 y6 ey6 hm9
      exact absurd hm9 (Nat.not_lt_zero _)
    | succ n9 ih13 =>
      intro c hc y3 ey3 y5 ey5 y6 ey6 hm9
      subst ey3
      subst ey5
      subst ey6
      refine g_iload (n := 15) hC rfl dX4_regions_13 ?_
      refine g_aload_n (n := 16) hC rfl dX4_regions_15 ?_
      refine g_getf (n := 19) (v := .int (nI (w * h))) hC gf_X4_60 (hbL) (hsb) rfl dX4_regions_16 ?_
      refine g_icmp_geN (n := 22) (tgt := 65) hC (by omega) (by omega) dX4_regions_19 (fun h19 => ?_) (fun h19 => ?_)
      ·
        refine g_iload (n := 67) hC rfl dX4_regions_65 ?_
        exact g_iret hC dX4_regions_67 (⟨rI (by rw [show c = w * h by omega]), rfl, rfl, rfl⟩)
      ·
        refine g_aload_n (n := 23) hC rfl dX4_regions_22 ?_
        refine g_lconst (n := 24) (v := 1) hC (by decide) dX4_regions_23 ?_
        refine g_iload (n := 26) hC rfl dX4_regions_24 ?_
        refine g_lshlN (n := 27) hC (by omega) dX4_regions_26 ?_
        refine g_lload_n (n := 28) hC rfl dX4_regions_27 ?_
        refine g_cV (n := 31) hC gv_X4_63 (hbL) (hsb) (X_flood K hbL hsb hw1 hw2 hh1 hh2) dX4_regions_28 ?_
        refine G.eql (rg_flood (by omega) (by omega) hX (by omega)) ?_
        refine g_lstore (n := 33) (ll1 := [some (.ref a), some (.ref b), some (.int (nI p)), some (.long ((outF f (w * h) p) &&& (rgY w h (outF f (w * h) p) c ^^^ (-1)))), none, some (.int (nI (rgC w h (outF f (w * h) p) c))), some (.int (nI c)), some (.long (if tb (outF f (w * h) p) c = true ∧ tb (rgY w h (outF f (w * h) p) c) c = false then rgn w h (outF f (w * h) p) c else 0)), none]) hC dX4_regions_31 rfl ?_
        refine g_lload_n (n := 34) hC rfl dX4_regions_33 ?_
        refine g_lload (n := 36) hC rfl dX4_regions_34 ?_
        refine g_ldc2 (n := 39) hC gc_X4_54 dX4_regions_36 ?_
        refine g_lxor (n := 40) hC dX4_regions_39 ?_
        refine g_land (n := 41) hC dX4_regions_40 ?_
        refine g_lstore_n (n := 42) (ll1 := [some (.ref a), some (.ref b), some (.int (nI p)), some (.long (((outF f (w * h) p) &&& (rgY w h (outF f (w * h) p) c ^^^ (-1))) &&& ((if tb (outF f (w * h) p) c = true ∧ tb (rgY w h (outF f (w * h) p) c) c = false then rgn w h (outF f (w * h) p) c else 0) ^^^ (-1)))), none, some (.int (nI (rgC w h (outF f (w * h) p) c))), some (.int (nI c)), some (.long (if tb (outF f (w * h) p) c = true ∧ tb (rgY w h (outF f (w * h) p) c) c = false then rgn w h (outF f (w * h) p) c else 0)), none]) hC dX4_regions_41 rfl ?_
        refine g_iload (n := 44) hC rfl dX4_regions_42 ?_
        refine g_lload (n := 46) hC rfl dX4_regions_44 ?_
        refine g_lconst (n := 47) (v := 0) hC (by decide) dX4_regions_46 ?_
        refine g_lcmp_ne (n := 51) (tgt := 55) hC dX4_regions_47 dX4_regions_48 (fun h47 => ?_) (fun h47 => ?_)
        ·
          refine g_iconst (n := 56) (v := (nI 1)) hC (by decide) dX4_regions_55 ?_
          refine g_iaddN (n := 57) hC dX4_regions_56 ?_
          refine g_istore (n := 59) (ll1 := [some (.ref a), some (.ref b), some (.int (nI p)), some (.long (((outF f (w * h) p) &&& (rgY w h (outF f (w * h) p) c ^^^ (-1))) &&& ((if tb (outF f (w * h) p) c = true ∧ tb (rgY w h (outF f (w * h) p) c) c = false then rgn w h (outF f (w * h) p) c else 0) ^^^ (-1)))), none, some (.int (nI ((rgC w h (outF f (w * h) p) c) + 1))), some (.int (nI c)), some (.long (if tb (outF f (w * h) p) c = true ∧ tb (rgY w h (outF f (w * h) p) c) c = false then rgn w h (outF f (w * h) p) c else 0)), none]) hC dX4_regions_57 rfl ?_
          refine g_iinc (n := 62) (ll1 := [some (.ref a), some (.ref b), some (.int (nI p)), some (.long (((outF f (w * h) p) &&& (rgY w h (outF f (w * h) p) c ^^^ (-1))) &&& ((if tb (outF f (w * h) p) c = true ∧ tb (rgY w h (outF f (w * h) p) c) c = false then rgn w h (outF f (w * h) p) c else 0) ^^^ (-1)))), none, some (.int (nI ((rgC w h (outF f (w * h) p) c) + 1))), some (.int (nI (c + 1))), some (.long (if tb (outF f (w * h) p) c = true ∧ tb (rgY w h (outF f (w * h) p) c) c = false then rgn w h (outF f (w * h) p) c else 0)), none]) hC dX4_regions_59 rfl (nI_inc _) rfl ?_
          refine g_goto (n := 13) hC dX4_regions_62 ?_
          exact G.le (ih13 (c + 1) (by omega) _ (by first | exact and_not0 _ | exact rg_op) _ (congrArg nI (rg_c1 (by omega) (by omega) hX h47)) _ (by first | rfl | (simp [*]; done)) (by omega)) (And.intro rfl (And.intro rfl (And.intro rfl (And.intro rfl (And.intro rfl (And.intro rfl (trivial)))))))
        ·
          refine g_iconst (n := 52) (v := (nI 0)) hC (by decide) dX4_regions_51 ?_
          refine g_goto (n := 56) hC dX4_regions_52 ?_
          refine g_iaddN (n := 57) hC dX4_regions_56 ?_
          refine g_istore (n := 59) (ll1 := [some (.ref a), some (.ref b), some (.int (nI p)), some (.long (((outF f (w * h) p) &&& (rgY w h (outF f (w * h) p) c ^^^ (-1))) &&& ((if tb (outF f (w * h) p) c = true ∧ tb (rgY w h (outF f (w * h) p) c) c = false then rgn w h (outF f (w * h) p) c else 0) ^^^ (-1)))), none, some (.int (nI ((rgC w h (outF f (w * h) p) c) + 0))), some (.int (nI c)), some (.long (if tb (outF f (w * h) p) c = true ∧ tb (rgY w h (outF f (w * h) p) c) c = false then rgn w h (outF f (w * h) p) c else 0)), none]) hC dX4_regions_57 rfl ?_
          refine g_iinc (n := 62) (ll1 := [some (.ref a), some (.ref b), some (.int (nI p)), some (.long (((outF f (w * h) p) &&& (rgY w h (outF f (w * h) p) c ^^^ (-1))) &&& ((if tb (outF f (w * h) p) c = true ∧ tb (rgY w h (outF f (w * h) p) c) c = false then rgn w h (outF f (w * h) p) c else 0) ^^^ (-1)))), none, some (.int (nI ((rgC w h (outF f (w * h) p) c) + 0))), some (.int (nI (c + 1))), some (.long (if tb (outF f (w * h) p) c = true ∧ tb (rgY w h (outF f (w * h) p) c) c = false then rgn w h (outF f (w * h) p) c else 0)), none]) hC dX4_regions_59 rfl (nI_inc _) rfl ?_
          refine g_goto (n := 13) hC dX4_regions_62 ?_
          exact G.le (ih13 (c + 1) (by omega) _ (by first | exact and_not0 _ | exact rg_op) _ (congrArg nI (rg_c0 (by omega) (by omega) hX h47)) _ (by first | rfl | (simp [*]; done)) (by omega)) (And.intro rfl (And.intro rfl (And.intro rfl (And.intro rfl (And.intro rfl (And.intro rfl (trivial)))))))
  exact lp13 _ 0 (by omega) _ (by first | exact and_not0 _ | exact rg_op) _ (rfl) _ (by first | rfl | (simp [*]; done)) (Nat.lt_succ_self _)
