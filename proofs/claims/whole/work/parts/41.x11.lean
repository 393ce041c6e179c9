/-! ===== the class: stones around a cell ===== -/
theorem in_enC {w h : Nat} {x : Int64} {c : Nat} (h1 : tb x c = true) : (fld w h x (sl 1 c &&& x) &&& edgF w h = 0) ↔ enC w h x c := by
  rw [fld_in h1 (tb_lt h1)]
  exact Iff.rfl
theorem and_one {x : Int64} {a : Nat} (h : ¬ x &&& sl 1 a = 0) : tb x a = true ∧ x &&& sl 1 a = sl 1 a := by
  have h1 : tb x a = true := by
    cases e : tb x a
    · refine absurd (and_0.mpr fun i hi => ?_) h
      rw [tb_one]
      by_cases e2 : i = a
      · subst e2; rw [e] at hi; cases hi
      · simp [e2]
    · rfl
  refine ⟨h1, tb_ext fun i hi => ?_⟩
  rw [tb_and, tb_one]
  by_cases e2 : i = a
  · subst e2; simp [h1]
  · simp [e2]
theorem and_one0 {x : Int64} {a : Nat} (h : x &&& sl 1 a = 0) : tb x a = false := by
  cases e : tb x a
  · rfl
  · have h1 := and_0.mp h a e
    rw [tb_one] at h1
    simp [tb_lt e] at h1
theorem tb_lessO {x : Int64} {a i : Nat} : tb (x &&& (sl 1 a ^^^ (-1))) i = true ↔ tb x i = true ∧ i ≠ a := by
  rw [tb_less, tb_one]
  constructor
  · rintro ⟨h1, h2⟩
    exact ⟨h1, fun e => by subst e; simp [tb_lt h1] at h2⟩
  · rintro ⟨h1, h2⟩
    exact ⟨h1, by simp [h2]⟩
def remF (n : Nat) (em : Int64) (a : Nat) : Int64 := bitsF (fun i => decide (a ≤ i) && tb em i) n
theorem tb_remF {n : Nat} {em : Int64} {a : Nat} (hn : n ≤ 64) (i : Nat) : tb (remF n em a) i = true ↔ i < n ∧ a ≤ i ∧ tb em i = true := by
  rw [remF, tb_bitsF _ _ hn]; simp
theorem rem_0 {n : Nat} {em : Int64} (hn : n ≤ 64) (h : ∀ i, tb em i = true → i < n) : em = remF n em 0 := by
  apply tb_ext
  intro i _
  rw [Bool.eq_iff_iff, tb_remF hn]
  exact ⟨fun q => ⟨h i q, by omega, q⟩, fun q => q.2.2⟩
theorem rem_s {n : Nat} {em : Int64} {a : Nat} (hn : n ≤ 64) : remF n em a &&& ((remF n em a &&& sl 1 a) ^^^ (-1)) = remF n em (a + 1) := by
  apply tb_ext
  intro i hi
  rw [Bool.eq_iff_iff, tb_less, tb_remF hn, tb_and, tb_one, tb_remF hn]
  constructor
  · rintro ⟨⟨h1, h2, h3⟩, h4⟩
    refine ⟨h1, ?_, h3⟩
    by_cases e : i = a
    · subst e
      rw [(tb_remF hn i).mpr ⟨h1, h2, h3⟩] at h4
      simp [hi] at h4
    · omega
  · rintro ⟨h1, h2, h3⟩
    exact ⟨⟨h1, by omega, h3⟩, by simp [show i ≠ a by omega]⟩
theorem s2_iff {w h : Nat} {op em : Int64} {c a : Nat} (hn : w * h ≤ 64) (ha : tb em a = true) : (∃ b, b < w * h ∧ s1C w h (op &&& (sl 1 a ^^^ (-1))) (remF (w * h) em (a + 1)) c b) ↔ ∃ b, b < w * h ∧ s2C w h op em c a b := by
  constructor
  · rintro ⟨b, h1, h2, h3⟩
    obtain ⟨_, h4, h5⟩ := (tb_remF hn b).mp h2
    exact ⟨b, h1, ha, h4, h5, h3⟩
  · rintro ⟨b, h1, _, h2, h3, h4⟩
    exact ⟨b, h1, (tb_remF hn b).mpr ⟨h1, h2, h3⟩, h4⟩

set_option maxRecDepth 20000 in
theorem X_oneStone (K : GK) {σ : GS} {L : List Nat} {z : Nat} {b : Nat} {w h : Nat} (hbL : b ∈ L) (hsb : σ b = bdA w h) (hw1 : 4 ≤ w) (hw2 : w ≤ 7) (hh1 : 4 ≤ h) (hh2 : h ≤ 7) {c : Nat} {op pl : Int64} (hop : ∀ i, tb op i = true → i < w * h) (hpl : ∀ i, tb pl i = true → i < w * h) (hc : tb op c = true) (hpc : tb pl c = false) : gT K yX4_oneStoneEncloses cX4_oneStoneEncloses 10 (some .boolean) 2 [.ref b, .long (sl 1 c), .long op, .long pl] z L (σ) (some (.int (bI (∃ a, a < w * h ∧ s1C w h op pl c a)))) (σ) := by
  have hn : w * h ≤ 49 := Nat.mul_le_mul hw2 hh2
  have hn1 : 16 ≤ w * h := Nat.mul_le_mul hw1 hh1
  refine g_intro [some (.ref b), some (.long (sl 1 c)), none, some (.long op), none, some (.long pl), none, none, none, none] (fun Γ hC => ?_) (by simp [g_en, lv_args, Value.category])
  refine g_iconst (n := 1) (v := (nI 0)) hC (by decide) dX4_oneStoneEncloses_0 ?_
  refine g_istore (n := 3) (ll1 := [some (.ref b), some (.long (sl 1 c)), none, some (.long op), none, some (.long pl), none, some (.int (nI 0)), none, none]) hC dX4_oneStoneEncloses_1 rfl ?_
  have lp3 : ∀ (n9 : Nat) (a : Nat) (ha : a ≤ w * h) (hno : ∀ i, i < a → ¬ s1C w h op pl c i) (y7 : Int32) (ey7 : y7 = (nI a)) (hm9 : w * h - a < n9), G K Γ (z, 0, 0, L) (σ) 3 [some (.ref b), some (.long (sl 1 c)), none, some (.long op), none, some (.long pl), none, some (.int y7), none, none] [] := by
    intro n9
    induction n9 with
    | zero =>
      intro a ha hno y7 ey7 hm9
      exact absurd hm9 (Nat.not_lt_zero _)
    | succ n9 ih3 =>
      intro a ha hno y7 ey7 hm9
      subst ey7
      refine g_iload (n := 5) hC rfl dX4_oneStoneEncloses_3 ?_
      refine g_aload_n (n := 6) hC rfl dX4_oneStoneEncloses_5 ?_
      refine g_getf (n := 9) (v := .int (nI (w * h))) hC gf_X4_60 (hbL) (hsb) rfl dX4_oneStoneEncloses_6 ?_
      refine g_icmp_geN (n := 12) (tgt := 52) hC (by omega) (by omega) dX4_oneStoneEncloses_9 (fun h9 => ?_) (fun h9 => ?_)
      ·
        refine g_iconst (n := 53) (v := (nI 0)) hC (by decide) dX4_oneStoneEncloses_52 ?_
        exact g_zret hC (by rfl) dX4_oneStoneEncloses_53 (⟨rI (bI_f (fun ⟨i, hi, q⟩ => hno i (by omega) q)).symm, rfl, rfl, rfl⟩)
      ·
        refine g_lload (n := 14) hC rfl dX4_oneStoneEncloses_12 ?_
        refine g_lconst (n := 15) (v := 1) hC (by decide) dX4_oneStoneEncloses_14 ?_
        refine g_iload (n := 17) hC rfl dX4_oneStoneEncloses_15 ?_
        refine g_lshlN (n := 18) hC (by omega) dX4_oneStoneEncloses_17 ?_
        refine g_land (n := 19) hC dX4_oneStoneEncloses_18 ?_
        refine g_lstore (n := 21) (ll1 := [some (.ref b), some (.long (sl 1 c)), none, some (.long op), none, some (.long pl), none, some (.int (nI a)), some (.long (pl &&& (sl 1 a))), none]) hC dX4_oneStoneEncloses_19 rfl ?_
        refine g_lload (n := 23) hC rfl dX4_oneStoneEncloses_21 ?_
        refine g_lconst (n := 24) (v := 0) hC (by decide) dX4_oneStoneEncloses_23 ?_
        refine g_lcmp_eq (n := 28) (tgt := 46) hC dX4_oneStoneEncloses_24 dX4_oneStoneEncloses_25 (fun h24 => ?_) (fun h24 => ?_)
        ·
          have hnx := st_nx hno (fun q => by have q1 := q.1; rw [and_one0 h24] at q1; cases q1)
          refine g_iinc (n := 49) (ll1 := [some (.ref b), some (.long (sl 1 c)), none, some (.long op), none, some (.long pl), none, some (.int (nI (a + 1))), some (.long (pl &&& (sl 1 a))), none]) hC dX4_oneStoneEncloses_46 rfl (nI_inc _) rfl ?_
          refine g_goto (n := 3) hC dX4_oneStoneEncloses_49 ?_
          exact G.le (ih3 (a + 1) (by omega) (by first | exact hnx | exact (fun i hi => absurd hi (Nat.not_lt_zero _))) _ (by first | rfl | (simp [*]; done)) (by omega)) (And.intro rfl (And.intro rfl (And.intro rfl (And.intro rfl (And.intro rfl (trivial))))))
        ·
          have hst := and_one h24
          refine g_aload_n (n := 29) hC rfl dX4_oneStoneEncloses_28 ?_
          refine g_lload_n (n := 30) hC rfl dX4_oneStoneEncloses_29 ?_
          refine g_lload_n (n := 31) hC rfl dX4_oneStoneEncloses_30 ?_
          refine g_lload (n := 33) hC rfl dX4_oneStoneEncloses_31 ?_
          refine g_ldc2 (n := 36) hC gc_X4_54 dX4_oneStoneEncloses_33 ?_
          refine g_lxor (n := 37) hC dX4_oneStoneEncloses_36 ?_
          refine g_land (n := 38) hC dX4_oneStoneEncloses_37 ?_
          refine g_cV (n := 41) hC gv_X4_84 (hbL) (hsb) (X_isInside K hbL hsb hw1 hw2 hh1 hh2) dX4_oneStoneEncloses_38 ?_
          refine G.eqi (bI_c (show _ ↔ enC w h (op &&& (sl 1 a ^^^ (-1))) c from by rw [hst.2]; exact in_enC (tb_lessO.mpr ⟨hc, fun e => by rw [e, hst.1] at hpc; cases hpc⟩))) ?_
          refine g_ifb_eq (n := 44) (tgt := 46) hC dX4_oneStoneEncloses_41 (fun h41 => ?_) (fun h41 => ?_)
          ·
            have hnx := st_nx hno (fun q => h41 q.2)
            refine g_iinc (n := 49) (ll1 := [some (.ref b), some (.long (sl 1 c)), none, some (.long op), none, some (.long pl), none, some (.int (nI (a + 1))), some (.long (pl &&& (sl 1 a))), none]) hC dX4_oneStoneEncloses_46 rfl (nI_inc _) rfl ?_
            refine g_goto (n := 3) hC dX4_oneStoneEncloses_49 ?_
            exact G.le (ih3 (a + 1) (by omega) (by first | exact hnx | exact (fun i hi => absurd hi (Nat.not_lt_zero _))) _ (by first | rfl | (simp [*]; done)) (by omega)) (And.intro rfl (And.intro rfl (And.intro rfl (And.intro rfl (And.intro rfl (trivial))))))
          ·
            refine g_iconst (n := 45) (v := (nI 1)) hC (by decide) dX4_oneStoneEncloses_44 ?_
            exact g_zret hC (by rfl) dX4_oneStoneEncloses_45 (⟨rI (bI_t ⟨a, by omega, hst.1, h41⟩).symm, rfl, rfl, rfl⟩)
  exact lp3 _ 0 (by omega) (by first | exact hnx | exact (fun i hi => absurd hi (Nat.not_lt_zero _))) _ (by first | rfl | (simp [*]; done)) (Nat.lt_succ_self _)

set_option maxRecDepth 20000 in
set_option maxHeartbeats 1000000 in
theorem X_stonesAround (K : GK) {σ : GS} {L : List Nat} {z : Nat} {b : Nat} {w h : Nat} (hbL : b ∈ L) (hsb : σ b = bdA w h) (hw1 : 4 ≤ w) (hw2 : w ≤ 7) (hh1 : 4 ≤ h) (hh2 : h ≤ 7) {a : Nat} {f : Nat → Int32} (haL : a ∈ L) (haL1 : a + 1 ∈ L) (hsa : σ a = psO a f) (hss : σ (a + 1) = lA K 6 (psS (w * h) f)) {p c : Nat} (hp : p ≤ 1) (hc : c < w * h) (htb : tb (outF f (w * h) p) c = true) : gT K yX4_stonesAround cX4_stonesAround 13 (some .int) 3 [.ref a, .ref b, .int (nI p), .int (nI c)] z L (σ) (some (.int (nI (ifP (enC w h (outF f (w * h) p) c) 0 (ifP (∃ a, a < w * h ∧ s1C w h (outF f (w * h) p) (psS (w * h) f 0 &&& (sl 1 c ^^^ (-1))) c a) 1 (ifP (∃ a b, a < w * h ∧ b < w * h ∧ s2C w h (outF f (w * h) p) (psS (w * h) f 0 &&& (sl 1 c ^^^ (-1))) c a b) 2 3)))))) (σ) := by
  have hn : w * h ≤ 49 := Nat.mul_le_mul hw2 hh2
  have hn1 : 16 ≤ w * h := Nat.mul_le_mul hw1 hh1
  have hn64 : w * h ≤ 64 := by omega
  have hX : ∀ i, tb (outF f (w * h) p) i = true → i < w * h := fun i hi => outF_lt (by omega) hi
  have hE : ∀ i, tb (psS (w * h) f 0 &&& (sl 1 c ^^^ (-1))) i = true → i < w * h := fun i hi => psS_lt (by omega) (tb_lessO.mp hi).1
  have hEc : tb (psS (w * h) f 0 &&& (sl 1 c ^^^ (-1))) c = false := by cases e : tb (psS (w * h) f 0 &&& (sl 1 c ^^^ (-1))) c; rfl; exact absurd rfl (tb_lessO.mp e).2
  refine g_intro [some (.ref a), some (.ref b), some (.int (nI p)), some (.int (nI c)), none, none, none, none, none, none, none, none, none] (fun Γ hC => ?_) (by simp [g_en, lv_args, Value.category])
  refine g_lconst (n := 1) (v := 1) hC (by decide) dX4_stonesAround_0 ?_
  refine g_iload_n (n := 2) hC rfl dX4_stonesAround_1 ?_
  refine g_lshlN (n := 3) hC (by omega) dX4_stonesAround_2 ?_
  refine g_lstore (n := 5) (ll1 := [some (.ref a), some (.ref b), some (.int (nI p)), some (.int (nI c)), some (.long (sl 1 c)), none, none, none, none, none, none, none, none]) hC dX4_stonesAround_3 rfl ?_
  refine g_aload_n (n := 6) hC rfl dX4_stonesAround_5 ?_
  refine g_aload_n (n := 7) hC rfl dX4_stonesAround_6 ?_
  refine g_iload_n (n := 8) hC rfl dX4_stonesAround_7 ?_
  refine g_cV (n := 11) hC gv_X4_56 (haL) (hsa) (X_open K hbL hsb hw1 hw2 hh1 hh2 haL haL1 hsa hss hp) dX4_stonesAround_8 ?_
  refine g_lstore (n := 13) (ll1 := [some (.ref a), some (.ref b), some (.int (nI p)), some (.int (nI c)), some (.long (sl 1 c)), none, some (.long (outF f (w * h) p)), none, none, none, none, none, none]) hC dX4_stonesAround_11 rfl ?_
  refine g_aload_n (n := 14) hC rfl dX4_stonesAround_13 ?_
  refine g_getf (n := 17) (v := .ref (a + 1)) hC gf_X4_9 (haL) (hsa) rfl dX4_stonesAround_14 ?_
  refine g_iconst (n := 18) (v := (nI 0)) hC (by decide) dX4_stonesAround_17 ?_
  refine g_lald (n := 19) (j := 0) hC (haL1) (hss) (rfl) (by omega) (by omega) dX4_stonesAround_18 ?_
  refine g_lload (n := 21) hC rfl dX4_stonesAround_19 ?_
  refine g_ldc2 (n := 24) hC gc_X4_54 dX4_stonesAround_21 ?_
  refine g_lxor (n := 25) hC dX4_stonesAround_24 ?_
  refine g_land (n := 26) hC dX4_stonesAround_25 ?_
  refine g_lstore (n := 28) (ll1 := [some (.ref a), some (.ref b), some (.int (nI p)), some (.int (nI c)), some (.long (sl 1 c)), none, some (.long (outF f (w * h) p)), none, some (.long (((psS (w * h) f) 0) &&& ((sl 1 c) ^^^ (-1)))), none, none, none, none]) hC dX4_stonesAround_26 rfl ?_
  refine g_aload_n (n := 29) hC rfl dX4_stonesAround_28 ?_
  refine g_lload (n := 31) hC rfl dX4_stonesAround_29 ?_
  refine g_lload (n := 33) hC rfl dX4_stonesAround_31 ?_
  refine g_cV (n := 36) hC gv_X4_84 (hbL) (hsb) (X_isInside K hbL hsb hw1 hw2 hh1 hh2) dX4_stonesAround_33 ?_
  refine G.eqi (bI_c (in_enC htb)) ?_
  refine g_ifb_eq (n := 39) (tgt := 41) hC dX4_stonesAround_36 (fun h36 => ?_) (fun h36 => ?_)
  ·
    refine g_aload_n (n := 42) hC rfl dX4_stonesAround_41 ?_
    refine g_lload (n := 44) hC rfl dX4_stonesAround_42 ?_
    refine g_lload (n := 46) hC rfl dX4_stonesAround_44 ?_
    refine g_lload (n := 48) hC rfl dX4_stonesAround_46 ?_
    refine g_cS (n := 51) hC gs_X4_88 (X_oneStone K hbL hsb hw1 hw2 hh1 hh2 hX hE htb hEc) dX4_stonesAround_48 ?_
    refine g_ifb_eq (n := 54) (tgt := 56) hC dX4_stonesAround_51 (fun h51 => ?_) (fun h51 => ?_)
    ·
      refine g_iconst (n := 57) (v := (nI 0)) hC (by decide) dX4_stonesAround_56 ?_
      refine g_istore (n := 59) (ll1 := [some (.ref a), some (.ref b), some (.int (nI p)), some (.int (nI c)), some (.long (sl 1 c)), none, some (.long (outF f (w * h) p)), none, some (.long (((psS (w * h) f) 0) &&& ((sl 1 c) ^^^ (-1)))), none, some (.int (nI 0)), none, none]) hC dX4_stonesAround_57 rfl ?_
      have lp59 : ∀ (n9 : Nat) (a9 : Nat) (ha9 : a9 ≤ w * h) (hno : ∀ i, i < a9 → ¬ ∃ b, b < w * h ∧ s2C w h (outF f (w * h) p) (psS (w * h) f 0 &&& (sl 1 c ^^^ (-1))) c i b) (y8 : Int64) (ey8 : y8 = (remF (w * h) (psS (w * h) f 0 &&& (sl 1 c ^^^ (-1))) a9)) (y10 : Int32) (ey10 : y10 = (nI a9)) (hm9 : w * h - a9 < n9), G K Γ (z, 0, 0, L) (σ) 59 [some (.ref a), some (.ref b), some (.int (nI p)), some (.int (nI c)), some (.long (sl 1 c)), none, some (.long (outF f (w * h) p)), none, some (.long y8), none, some (.int y10), none, none] [] := by
        intro n9
        induction n9 with
        | zero =>
          intro a9 ha9 hno y8 ey8 y10 ey10 hm9
          exact absurd hm9 (Nat.not_lt_zero _)
        | succ n9 ih59 =>
          intro a9 ha9 hno y8 ey8 y10 ey10 hm9
          subst ey8
          subst ey10
          refine g_iload (n := 61) hC rfl dX4_stonesAround_59 ?_
          refine g_aload_n (n := 62) hC rfl dX4_stonesAround_61 ?_
          refine g_getf (n := 65) (v := .int (nI (w * h))) hC gf_X4_60 (hbL) (hsb) rfl dX4_stonesAround_62 ?_
          refine g_icmp_geN (n := 68) (tgt := 123) hC (by omega) (by omega) dX4_stonesAround_65 (fun h65 => ?_) (fun h65 => ?_)
          ·
            refine g_iconst (n := 124) (v := (nI 3)) hC (by decide) dX4_stonesAround_123 ?_
            exact g_iret hC dX4_stonesAround_124 (⟨rI (congrArg nI ((ifP_f h36).trans ((ifP_f h51).trans (ifP_f (fun ⟨i, b, hi, hb, q⟩ => hno i (by omega) ⟨b, hb, q⟩)))).symm), rfl, rfl, rfl⟩)
          ·
            refine g_lload (n := 70) hC rfl dX4_stonesAround_68 ?_
            refine g_lconst (n := 71) (v := 1) hC (by decide) dX4_stonesAround_70 ?_
            refine g_iload (n := 73) hC rfl dX4_stonesAround_71 ?_
            refine g_lshlN (n := 74) hC (by omega) dX4_stonesAround_73 ?_
            refine g_land (n := 75) hC dX4_stonesAround_74 ?_
            refine g_lstore (n := 77) (ll1 := [some (.ref a), some (.ref b), some (.int (nI p)), some (.int (nI c)), some (.long (sl 1 c)), none, some (.long (outF f (w * h) p)), none, some (.long (remF (w * h) (psS (w * h) f 0 &&& (sl 1 c ^^^ (-1))) a9)), none, some (.int (nI a9)), some (.long ((remF (w * h) (psS (w * h) f 0 &&& (sl 1 c ^^^ (-1))) a9) &&& (sl 1 a9))), none]) hC dX4_stonesAround_75 rfl ?_
            refine g_lload (n := 79) hC rfl dX4_stonesAround_77 ?_
            refine g_lload (n := 81) hC rfl dX4_stonesAround_79 ?_
            refine g_ldc2 (n := 84) hC gc_X4_54 dX4_stonesAround_81 ?_
            refine g_lxor (n := 85) hC dX4_stonesAround_84 ?_
            refine g_land (n := 86) hC dX4_stonesAround_85 ?_
            refine G.eql (rem_s hn64) ?_
            refine g_lstore (n := 88) (ll1 := [some (.ref a), some (.ref b), some (.int (nI p)), some (.int (nI c)), some (.long (sl 1 c)), none, some (.long (outF f (w * h) p)), none, some (.long (remF (w * h) (psS (w * h) f 0 &&& (sl 1 c ^^^ (-1))) (a9 + 1))), none, some (.int (nI a9)), some (.long ((remF (w * h) (psS (w * h) f 0 &&& (sl 1 c ^^^ (-1))) a9) &&& (sl 1 a9))), none]) hC dX4_stonesAround_86 rfl ?_
            refine g_lload (n := 90) hC rfl dX4_stonesAround_88 ?_
            refine g_lconst (n := 91) (v := 0) hC (by decide) dX4_stonesAround_90 ?_
            refine g_lcmp_eq (n := 95) (tgt := 117) hC dX4_stonesAround_91 dX4_stonesAround_92 (fun h91 => ?_) (fun h91 => ?_)
            ·
              have hea : tb (psS (w * h) f 0 &&& (sl 1 c ^^^ (-1))) a9 = false := by
                cases e : tb (psS (w * h) f 0 &&& (sl 1 c ^^^ (-1))) a9
                · rfl
                · have := and_one0 h91; rw [(tb_remF hn64 a9).mpr ⟨h65, Nat.le_refl _, e⟩] at this; cases this
              have hnx : ∀ i, i < a9 + 1 → ¬ ∃ b, b < w * h ∧ s2C w h (outF f (w * h) p) (psS (w * h) f 0 &&& (sl 1 c ^^^ (-1))) c i b := st_nx hno (fun ⟨b, _, q⟩ => by have q1 := q.1; rw [hea] at q1; cases q1)
              refine g_iinc (n := 120) (ll1 := [some (.ref a), some (.ref b), some (.int (nI p)), some (.int (nI c)), some (.long (sl 1 c)), none, some (.long (outF f (w * h) p)), none, some (.long (remF (w * h) (psS (w * h) f 0 &&& (sl 1 c ^^^ (-1))) (a9 + 1))), none, some (.int (nI (a9 + 1))), some (.long ((remF (w * h) (psS (w * h) f 0 &&& (sl 1 c ^^^ (-1))) a9) &&& (sl 1 a9))), none]) hC dX4_stonesAround_117 rfl (nI_inc _) rfl ?_
              refine g_goto (n := 59) hC dX4_stonesAround_120 ?_
              exact G.le (ih59 (a9 + 1) (by omega) (by first | exact hnx | exact (fun i hi => absurd hi (Nat.not_lt_zero _))) _ (by first | rfl | exact rem_0 hn64 hE) _ (by first | rfl | (simp [*]; done)) (by omega)) (And.intro rfl (And.intro rfl (And.intro rfl (And.intro rfl (And.intro rfl (And.intro rfl (And.intro rfl (And.intro rfl (trivial)))))))))
            ·
              have hs1 := and_one h91
              have hst : tb (psS (w * h) f 0 &&& (sl 1 c ^^^ (-1))) a9 = true ∧ remF (w * h) (psS (w * h) f 0 &&& (sl 1 c ^^^ (-1))) a9 &&& sl 1 a9 = sl 1 a9 := ⟨((tb_remF hn64 a9).mp hs1.1).2.2, hs1.2⟩
              have hca : c ≠ a9 := fun e => by have q1 := hst.1; rw [← e, hEc] at q1; cases q1
              refine g_aload_n (n := 96) hC rfl dX4_stonesAround_95 ?_
              refine g_lload (n := 98) hC rfl dX4_stonesAround_96 ?_
              refine g_lload (n := 100) hC rfl dX4_stonesAround_98 ?_
              refine g_lload (n := 102) hC rfl dX4_stonesAround_100 ?_
              refine g_ldc2 (n := 105) hC gc_X4_54 dX4_stonesAround_102 ?_
              refine g_lxor (n := 106) hC dX4_stonesAround_105 ?_
              refine g_land (n := 107) hC dX4_stonesAround_106 ?_
              refine G.eql (by rw [hst.2]) ?_
              refine g_lload (n := 109) hC rfl dX4_stonesAround_107 ?_
              refine g_cS (n := 112) hC gs_X4_88 (X_oneStone K hbL hsb hw1 hw2 hh1 hh2 (fun i hi => hX i (tb_lessO.mp hi).1) (fun i hi => ((tb_remF hn64 i).mp hi).1) (tb_lessO.mpr ⟨htb, hca⟩) (by cases e : tb (remF (w * h) (psS (w * h) f 0 &&& (sl 1 c ^^^ (-1))) (a9 + 1)) c; rfl; exact absurd ((tb_remF hn64 c).mp e).2.2 (by rw [hEc]; decide))) dX4_stonesAround_109 ?_
              refine G.eqi (bI_c (s2_iff hn64 hst.1)) ?_
              refine g_ifb_eq (n := 115) (tgt := 117) hC dX4_stonesAround_112 (fun h112 => ?_) (fun h112 => ?_)
              ·
                have hnx : ∀ i, i < a9 + 1 → ¬ ∃ b, b < w * h ∧ s2C w h (outF f (w * h) p) (psS (w * h) f 0 &&& (sl 1 c ^^^ (-1))) c i b := st_nx hno h112
                refine g_iinc (n := 120) (ll1 := [some (.ref a), some (.ref b), some (.int (nI p)), some (.int (nI c)), some (.long (sl 1 c)), none, some (.long (outF f (w * h) p)), none, some (.long (remF (w * h) (psS (w * h) f 0 &&& (sl 1 c ^^^ (-1))) (a9 + 1))), none, some (.int (nI (a9 + 1))), some (.long ((remF (w * h) (psS (w * h) f 0 &&& (sl 1 c ^^^ (-1))) a9) &&& (sl 1 a9))), none]) hC dX4_stonesAround_117 rfl (nI_inc _) rfl ?_
                refine g_goto (n := 59) hC dX4_stonesAround_120 ?_
                exact G.le (ih59 (a9 + 1) (by omega) (by first | exact hnx | exact (fun i hi => absurd hi (Nat.not_lt_zero _))) _ (by first | rfl | exact rem_0 hn64 hE) _ (by first | rfl | (simp [*]; done)) (by omega)) (And.intro rfl (And.intro rfl (And.intro rfl (And.intro rfl (And.intro rfl (And.intro rfl (And.intro rfl (And.intro rfl (trivial)))))))))
              ·
                refine g_iconst (n := 116) (v := (nI 2)) hC (by decide) dX4_stonesAround_115 ?_
                exact g_iret hC dX4_stonesAround_116 (⟨rI (congrArg nI ((ifP_f h36).trans ((ifP_f h51).trans (ifP_t ⟨a9, h112.choose, h65, h112.choose_spec.1, h112.choose_spec.2⟩))).symm), rfl, rfl, rfl⟩)
      exact lp59 _ 0 (by omega) (by first | exact hnx | exact (fun i hi => absurd hi (Nat.not_lt_zero _))) _ (by first | rfl | exact rem_0 hn64 hE) _ (by first | rfl | (simp [*]; done)) (Nat.lt_succ_self _)
    ·
      refine g_iconst (n := 55) (v := (nI 1)) hC (by decide) dX4_stonesAround_54 ?_
      exact g_iret hC dX4_stonesAround_55 (⟨rI (congrArg nI ((ifP_f h36).trans (ifP_t h51)).symm), rfl, rfl, rfl⟩)
  ·
    refine g_iconst (n := 40) (v := (nI 0)) hC (by decide) dX4_stonesAround_39 ?_
    exact g_iret hC dX4_stonesAround_40 (⟨rI (congrArg nI (ifP_t h36).symm), rfl, rfl, rfl⟩)
