/-! ===== the class: its board ===== -/
def bdA (w h : Nat) : va_E := .inr (0, [.int (nI w), .int (nI h), .int (nI (w * h)), .long (allF (w * h)), .long (edgF w h), .long (colF w 0 h), .long (colF w (w - 1) h)])
theorem inN_b {n : Nat} {x : Int32} (hn : n < 2 ^ 31) : (nI 0 ≤ x ∧ x < nI n) ↔ inN n x := by
  constructor
  · rintro ⟨h1, h2⟩
    rw [Int32.le_iff_toInt_le, nI_toInt (by omega)] at h1
    rw [Int32.lt_iff_toInt_lt, nI_toInt hn] at h2
    refine ⟨x.toInt.toNat, by omega, ?_⟩
    apply Int32.toInt_inj.mp
    rw [nI_toInt (by omega)]
    omega
  · rintro ⟨j, h2, rfl⟩
    refine ⟨nI_le (by omega) (by omega), ?_⟩
    rw [Int32.lt_iff_toInt_lt, nI_toInt (by omega), nI_toInt hn]
    omega
theorem five_x {w h : Nat} {s : Int64} : (s ||| sl (s &&& (colF w (w - 1) h ^^^ (-1))) 1 ||| su (s &&& (colF w 0 h ^^^ (-1))) 1 ||| sl s w ||| su s w) = five w h s := by
  apply tb_ext
  intro i _
  simp only [five, tb_or]
  ac_rfl
theorem itr_stop {w h k : Nat} {x s : Int64} (hk : k ≤ w * h) (e : stp w h x (itr (stp w h x) k s) = itr (stp w h x) k s) : itr (stp w h x) k s = fld w h x s := (itr_fixed (f := stp w h x) (a := s) (k := k) e (w * h) hk).symm
theorem fld_in {w h : Nat} {x : Int64} {c : Nat} (h1 : tb x c = true) (hc : c < 64) : fld w h x (sl 1 c &&& x) = rgn w h x c := by
  rw [rgn]
  congr 1
  apply tb_ext
  intro i hi
  rw [tb_and, tb_one]
  by_cases e : i = c
  · subst e; simp [h1]
  · simp [e]
theorem itr_0 {w h : Nat} {x : Int64} : ∀ k, itr (stp w h x) k 0 = 0
  | 0 => rfl
  | k + 1 => by
    rw [itr, itr_0 k]
    apply tb_ext
    intro i hi
    simp [stp, five, tb_and, tb_or, tb_0, tb_sl, tb_su]
theorem fld_out {w h : Nat} {x : Int64} {c : Nat} (h1 : tb x c = false) : fld w h x (sl 1 c &&& x) = 0 := by
  have e : sl 1 c &&& x = 0 := by
    apply tb_ext
    intro i hi
    rw [tb_and, tb_one, tb_0]
    by_cases e : i = c
    · subst e; simp [h1]
    · simp [e]
  rw [e, fld, itr_0]

set_option maxRecDepth 20000 in
theorem X_has (K : GK) {σ : GS} {L : List Nat} {z : Nat} {t : Nat} {w h : Nat} (hbL : t ∈ L) (hsb : σ t = bdA w h) (hw1 : 4 ≤ w) (hw2 : w ≤ 7) (hh1 : 4 ≤ h) (hh2 : h ≤ 7) {x : Int32} : gT K yX0_has cX0_has 2 (some .boolean) 0 [.ref t, .int x] z L (σ) (some (.int (bI (inN (w * h) x)))) (σ) := by
  have hn : w * h ≤ 49 := Nat.mul_le_mul hw2 hh2
  have hn1 : 16 ≤ w * h := Nat.mul_le_mul hw1 hh1
  refine g_intro [some (.ref t), some (.int x)] (fun Γ hC => ?_) (by simp [g_en, lv_args, Value.category])
  refine g_iload_n (n := 1) hC rfl dX0_has_0 ?_
  refine g_if_lt (n := 4) (tgt := 16) hC dX0_has_1 (fun h1 => ?_) (fun h1 => ?_)
  ·
    refine g_iconst (n := 17) (v := (nI 0)) hC (by decide) dX0_has_16 ?_
    exact g_zret hC (by rfl) dX0_has_17 (⟨rI (by first | (rw [← bI_c (inN_b (by omega))]; exact (bI_f (fun q => absurd q.1 (Int32.not_le.mpr h1))).symm) | (rw [← bI_c (inN_b (by omega))]; exact (bI_f (fun q => absurd q.2 (Int32.not_lt.mpr h9))).symm) | (rw [← bI_c (inN_b (by omega))]; exact (bI_t ⟨Int32.not_lt.mp h1, Int32.not_le.mp h9⟩).symm)), rfl, rfl, rfl⟩)
  ·
    refine g_iload_n (n := 5) hC rfl dX0_has_4 ?_
    refine g_aload_n (n := 6) hC rfl dX0_has_5 ?_
    refine g_getf (n := 9) (v := .int (nI (w * h))) hC gf_X0_16 (hbL) (hsb) rfl dX0_has_6 ?_
    refine g_icmp_ge (n := 12) (tgt := 16) hC dX0_has_9 (fun h9 => ?_) (fun h9 => ?_)
    ·
      refine g_iconst (n := 17) (v := (nI 0)) hC (by decide) dX0_has_16 ?_
      exact g_zret hC (by rfl) dX0_has_17 (⟨rI (by first | (rw [← bI_c (inN_b (by omega))]; exact (bI_f (fun q => absurd q.1 (Int32.not_le.mpr h1))).symm) | (rw [← bI_c (inN_b (by omega))]; exact (bI_f (fun q => absurd q.2 (Int32.not_lt.mpr h9))).symm) | (rw [← bI_c (inN_b (by omega))]; exact (bI_t ⟨Int32.not_lt.mp h1, Int32.not_le.mp h9⟩).symm)), rfl, rfl, rfl⟩)
    ·
      refine g_iconst (n := 13) (v := (nI 1)) hC (by decide) dX0_has_12 ?_
      refine g_goto (n := 17) hC dX0_has_13 ?_
      exact g_zret hC (by rfl) dX0_has_17 (⟨rI (by first | (rw [← bI_c (inN_b (by omega))]; exact (bI_f (fun q => absurd q.1 (Int32.not_le.mpr h1))).symm) | (rw [← bI_c (inN_b (by omega))]; exact (bI_f (fun q => absurd q.2 (Int32.not_lt.mpr h9))).symm) | (rw [← bI_c (inN_b (by omega))]; exact (bI_t ⟨Int32.not_lt.mp h1, Int32.not_le.mp h9⟩).symm)), rfl, rfl, rfl⟩)

set_option maxRecDepth 20000 in
theorem X_cellAt (K : GK) {σ : GS} {L : List Nat} {z : Nat} {t : Nat} {w h : Nat} (hbL : t ∈ L) (hsb : σ t = bdA w h) (hw1 : 4 ≤ w) (hw2 : w ≤ 7) (hh1 : 4 ≤ h) (hh2 : h ≤ 7) {a b : Nat} : gT K yX0_cellAt cX0_cellAt 3 (some .int) 0 [.ref t, .int (nI a), .int (nI b)] z L (σ) (some (.int (nI (b * w + a)))) (σ) := by
  have hn : w * h ≤ 49 := Nat.mul_le_mul hw2 hh2
  have hn1 : 16 ≤ w * h := Nat.mul_le_mul hw1 hh1
  refine g_intro [some (.ref t), some (.int (nI a)), some (.int (nI b))] (fun Γ hC => ?_) (by simp [g_en, lv_args, Value.category])
  refine g_iload_n (n := 1) hC rfl dX0_cellAt_0 ?_
  refine g_aload_n (n := 2) hC rfl dX0_cellAt_1 ?_
  refine g_getf (n := 5) (v := .int (nI w)) hC gf_X0_7 (hbL) (hsb) rfl dX0_cellAt_2 ?_
  refine g_imulN (n := 6) hC dX0_cellAt_5 ?_
  refine g_iload_n (n := 7) hC rfl dX0_cellAt_6 ?_
  refine g_iaddN (n := 8) hC dX0_cellAt_7 ?_
  exact g_iret hC dX0_cellAt_8 (⟨by first | rfl | (simp [*]; done), rfl, rfl, rfl⟩)

set_option maxRecDepth 20000 in
theorem X_rowOf (K : GK) {σ : GS} {L : List Nat} {z : Nat} {t : Nat} {w h : Nat} (hbL : t ∈ L) (hsb : σ t = bdA w h) (hw1 : 4 ≤ w) (hw2 : w ≤ 7) (hh1 : 4 ≤ h) (hh2 : h ≤ 7) {c : Nat} (hc : c < w * h) : gT K yX0_rowOf cX0_rowOf 2 (some .int) 0 [.ref t, .int (nI c)] z L (σ) (some (.int (nI (c / w)))) (σ) := by
  have hn : w * h ≤ 49 := Nat.mul_le_mul hw2 hh2
  have hn1 : 16 ≤ w * h := Nat.mul_le_mul hw1 hh1
  refine g_intro [some (.ref t), some (.int (nI c))] (fun Γ hC => ?_) (by simp [g_en, lv_args, Value.category])
  refine g_aload_n (n := 1) hC rfl dX0_rowOf_0 ?_
  refine g_getf (n := 4) (v := .int (nI w)) hC gf_X0_7 (hbL) (hsb) rfl dX0_rowOf_1 ?_
  refine g_if_neN (n := 7) (tgt := 11) hC (by omega) dX0_rowOf_4 (fun h4 => ?_) (fun h4 => absurd h4 (by omega))
  refine g_iload_n (n := 12) hC rfl dX0_rowOf_11 ?_
  refine g_aload_n (n := 13) hC rfl dX0_rowOf_12 ?_
  refine g_getf (n := 16) (v := .int (nI w)) hC gf_X0_7 (hbL) (hsb) rfl dX0_rowOf_13 ?_
  refine g_idivN (n := 17) hC (by omega) (by omega) (by omega) dX0_rowOf_16 ?_
  exact g_iret hC dX0_rowOf_17 (⟨by first | rfl | (simp [*]; done), rfl, rfl, rfl⟩)

set_option maxRecDepth 20000 in
theorem X_columnOf (K : GK) {σ : GS} {L : List Nat} {z : Nat} {t : Nat} {w h : Nat} (hbL : t ∈ L) (hsb : σ t = bdA w h) (hw1 : 4 ≤ w) (hw2 : w ≤ 7) (hh1 : 4 ≤ h) (hh2 : h ≤ 7) {c : Nat} (hc : c < w * h) : gT K yX0_columnOf cX0_columnOf 2 (some .int) 1 [.ref t, .int (nI c)] z L (σ) (some (.int (nI (c % w)))) (σ) := by
  have hn : w * h ≤ 49 := Nat.mul_le_mul hw2 hh2
  have hn1 : 16 ≤ w * h := Nat.mul_le_mul hw1 hh1
  refine g_intro [some (.ref t), some (.int (nI c))] (fun Γ hC => ?_) (by simp [g_en, lv_args, Value.category])
  refine g_iload_n (n := 1) hC rfl dX0_columnOf_0 ?_
  refine g_aload_n (n := 2) hC rfl dX0_columnOf_1 ?_
  refine g_iload_n (n := 3) hC rfl dX0_columnOf_2 ?_
  refine g_cV (n := 6) hC gv_X0_32 (hbL) (hsb) (X_rowOf K hbL hsb hw1 hw2 hh1 hh2 (c := c) (by omega)) dX0_columnOf_3 ?_
  refine g_aload_n (n := 7) hC rfl dX0_columnOf_6 ?_
  refine g_getf (n := 10) (v := .int (nI w)) hC gf_X0_7 (hbL) (hsb) rfl dX0_columnOf_7 ?_
  refine g_imulN (n := 11) hC dX0_columnOf_10 ?_
  refine g_isubN (n := 12) hC (Nat.div_mul_le_self c w) dX0_columnOf_11 ?_
  exact g_iret hC dX0_columnOf_12 (⟨rI (by rw [Nat.mod_eq_sub_div_mul]), rfl, rfl, rfl⟩)

set_option maxRecDepth 20000 in
theorem X_flood (K : GK) {σ : GS} {L : List Nat} {z : Nat} {t : Nat} {w h : Nat} (hbL : t ∈ L) (hsb : σ t = bdA w h) (hw1 : 4 ≤ w) (hw2 : w ≤ 7) (hh1 : 4 ≤ h) (hh2 : h ≤ 7) {s x : Int64} : gT K yX0_flood cX0_flood 14 (some .long) 0 [.ref t, .long s, .long x] z L (σ) (some (.long (fld w h x (s &&& x)))) (σ) := by
  have hn : w * h ≤ 49 := Nat.mul_le_mul hw2 hh2
  have hn1 : 16 ≤ w * h := Nat.mul_le_mul hw1 hh1
  refine g_intro [some (.ref t), some (.long s), none, some (.long x), none, none, none, none, none, none, none, none, none, none] (fun Γ hC => ?_) (by simp [g_en, lv_args, Value.category])
  refine g_lload_n (n := 1) hC rfl dX0_flood_0 ?_
  refine g_lload_n (n := 2) hC rfl dX0_flood_1 ?_
  refine g_land (n := 3) hC dX0_flood_2 ?_
  refine g_lstore (n := 5) (ll1 := [some (.ref t), some (.long s), none, some (.long x), none, some (.long (s &&& x)), none, none, none, none, none, none, none, none]) hC dX0_flood_3 rfl ?_
  refine g_iconst (n := 6) (v := (nI 0)) hC (by decide) dX0_flood_5 ?_
  refine g_istore (n := 8) (ll1 := [some (.ref t), some (.long s), none, some (.long x), none, some (.long (s &&& x)), none, some (.int (nI 0)), none, none, none, none, none, none]) hC dX0_flood_6 rfl ?_
  have lp8 : ∀ (n9 : Nat) (k : Nat) (hk : k ≤ w * h) (y5 : Int64) (ey5 : y5 = (itr (stp w h x) k (s &&& x))) (y7 : Int32) (ey7 : y7 = (nI k)) (hm9 : w * h - k < n9), G K Γ (z, 0, 0, L) (σ) 8 [some (.ref t), some (.long s), none, some (.long x), none, some (.long y5), none, some (.int y7), none, none, none, none, none, none] [] := by
    intro n9
    induction n9 with
    | zero =>
      intro k hk y5 ey5 y7 ey7 hm9
      exact absurd hm9 (Nat.not_lt_zero _)
    | succ n9 ih8 =>
      intro k hk y5 ey5 y7 ey7 hm9
      subst ey5
      subst ey7
      refine g_iload (n := 10) hC rfl dX0_flood_8 ?_
      refine g_aload_n (n := 11) hC rfl dX0_flood_10 ?_
      refine g_getf (n := 14) (v := .int (nI (w * h))) hC gf_X0_16 (hbL) (hsb) rfl dX0_flood_11 ?_
      refine g_icmp_geN (n := 17) (tgt := 96) hC (by omega) (by omega) dX0_flood_14 (fun h14 => ?_) (fun h14 => ?_)
      ·
        refine g_lload (n := 98) hC rfl dX0_flood_96 ?_
        exact g_lret hC dX0_flood_98 (⟨rL (by rw [show k = w * h by omega]; rfl), rfl, rfl, rfl⟩)
      ·
        refine g_lload (n := 19) hC rfl dX0_flood_17 ?_
        refine g_aload_n (n := 20) hC rfl dX0_flood_19 ?_
        refine g_getf (n := 23) (v := .long (colF w (w - 1) h)) hC gf_X0_26 (hbL) (hsb) rfl dX0_flood_20 ?_
        refine g_ldc2 (n := 26) hC gc_X0_42 dX0_flood_23 ?_
        refine g_lxor (n := 27) hC dX0_flood_26 ?_
        refine g_land (n := 28) hC dX0_flood_27 ?_
        refine g_iconst (n := 29) (v := (nI 1)) hC (by decide) dX0_flood_28 ?_
        refine g_lshlN (n := 30) hC (by omega) dX0_flood_29 ?_
        refine g_lstore (n := 32) (ll1 := [some (.ref t), some (.long s), none, some (.long x), none, some (.long (itr (stp w h x) k (s &&& x))), none, some (.int (nI k)), some (.long (sl ((itr (stp w h x) k (s &&& x)) &&& ((colF w (w - 1) h) ^^^ (-1))) 1)), none, none, none, none, none]) hC dX0_flood_30 rfl ?_
        refine g_lload (n := 34) hC rfl dX0_flood_32 ?_
        refine g_aload_n (n := 35) hC rfl dX0_flood_34 ?_
        refine g_getf (n := 38) (v := .long (colF w 0 h)) hC gf_X0_23 (hbL) (hsb) rfl dX0_flood_35 ?_
        refine g_ldc2 (n := 41) hC gc_X0_42 dX0_flood_38 ?_
        refine g_lxor (n := 42) hC dX0_flood_41 ?_
        refine g_land (n := 43) hC dX0_flood_42 ?_
        refine g_iconst (n := 44) (v := (nI 1)) hC (by decide) dX0_flood_43 ?_
        refine g_lushrN (n := 45) hC (by omega) dX0_flood_44 ?_
        refine g_lstore (n := 47) (ll1 := [some (.ref t), some (.long s), none, some (.long x), none, some (.long (itr (stp w h x) k (s &&& x))), none, some (.int (nI k)), some (.long (sl ((itr (stp w h x) k (s &&& x)) &&& ((colF w (w - 1) h) ^^^ (-1))) 1)), none, some (.long (su ((itr (stp w h x) k (s &&& x)) &&& ((colF w 0 h) ^^^ (-1))) 1)), none, none, none]) hC dX0_flood_45 rfl ?_
        refine g_lload (n := 49) hC rfl dX0_flood_47 ?_
        refine g_lload (n := 51) hC rfl dX0_flood_49 ?_
        refine g_lor (n := 52) hC dX0_flood_51 ?_
        refine g_lload (n := 54) hC rfl dX0_flood_52 ?_
        refine g_lor (n := 55) hC dX0_flood_54 ?_
        refine g_lload (n := 57) hC rfl dX0_flood_55 ?_
        refine g_aload_n (n := 58) hC rfl dX0_flood_57 ?_
        refine g_getf (n := 61) (v := .int (nI w)) hC gf_X0_7 (hbL) (hsb) rfl dX0_flood_58 ?_
        refine g_lshlN (n := 62) hC (by omega) dX0_flood_61 ?_
        refine g_lor (n := 63) hC dX0_flood_62 ?_
        refine g_lload (n := 65) hC rfl dX0_flood_63 ?_
        refine g_aload_n (n := 66) hC rfl dX0_flood_65 ?_
        refine g_getf (n := 69) (v := .int (nI w)) hC gf_X0_7 (hbL) (hsb) rfl dX0_flood_66 ?_
        refine g_lushrN (n := 70) hC (by omega) dX0_flood_69 ?_
        refine g_lor (n := 71) hC dX0_flood_70 ?_
        refine g_lload_n (n := 72) hC rfl dX0_flood_71 ?_
        refine g_land (n := 73) hC dX0_flood_72 ?_
        refine g_lstore (n := 75) (ll1 := [some (.ref t), some (.long s), none, some (.long x), none, some (.long (itr (stp w h x) k (s &&& x))), none, some (.int (nI k)), some (.long (sl ((itr (stp w h x) k (s &&& x)) &&& ((colF w (w - 1) h) ^^^ (-1))) 1)), none, some (.long (su ((itr (stp w h x) k (s &&& x)) &&& ((colF w 0 h) ^^^ (-1))) 1)), none, some (.long ((((((itr (stp w h x) k (s &&& x)) ||| (sl ((itr (stp w h x) k (s &&& x)) &&& ((colF w (w - 1) h) ^^^ (-1))) 1)) ||| (su ((itr (stp w h x) k (s &&& x)) &&& ((colF w 0 h) ^^^ (-1))) 1)) ||| (sl (itr (stp w h x) k (s &&& x)) w)) ||| (su (itr (stp w h x) k (s &&& x)) w)) &&& x)), none]) hC dX0_flood_73 rfl ?_
        refine g_lload (n := 77) hC rfl dX0_flood_75 ?_
        refine g_lload (n := 79) hC rfl dX0_flood_77 ?_
        refine g_lcmp_ne (n := 83) (tgt := 86) hC dX0_flood_79 dX0_flood_80 (fun h79 => ?_) (fun h79 => ?_)
        ·
          refine g_lload (n := 88) hC rfl dX0_flood_86 ?_
          refine g_lstore (n := 90) (ll1 := [some (.ref t), some (.long s), none, some (.long x), none, some (.long ((((((itr (stp w h x) k (s &&& x)) ||| (sl ((itr (stp w h x) k (s &&& x)) &&& ((colF w (w - 1) h) ^^^ (-1))) 1)) ||| (su ((itr (stp w h x) k (s &&& x)) &&& ((colF w 0 h) ^^^ (-1))) 1)) ||| (sl (itr (stp w h x) k (s &&& x)) w)) ||| (su (itr (stp w h x) k (s &&& x)) w)) &&& x)), none, some (.int (nI k)), some (.long (sl ((itr (stp w h x) k (s &&& x)) &&& ((colF w (w - 1) h) ^^^ (-1))) 1)), none, some (.long (su ((itr (stp w h x) k (s &&& x)) &&& ((colF w 0 h) ^^^ (-1))) 1)), none, some (.long ((((((itr (stp w h x) k (s &&& x)) ||| (sl ((itr (stp w h x) k (s &&& x)) &&& ((colF w (w - 1) h) ^^^ (-1))) 1)) ||| (su ((itr (stp w h x) k (s &&& x)) &&& ((colF w 0 h) ^^^ (-1))) 1)) ||| (sl (itr (stp w h x) k (s &&& x)) w)) ||| (su (itr (stp w h x) k (s &&& x)) w)) &&& x)), none]) hC dX0_flood_88 rfl ?_
          refine g_iinc (n := 93) (ll1 := [some (.ref t), some (.long s), none, some (.long x), none, some (.long ((((((itr (stp w h x) k (s &&& x)) ||| (sl ((itr (stp w h x) k (s &&& x)) &&& ((colF w (w - 1) h) ^^^ (-1))) 1)) ||| (su ((itr (stp w h x) k (s &&& x)) &&& ((colF w 0 h) ^^^ (-1))) 1)) ||| (sl (itr (stp w h x) k (s &&& x)) w)) ||| (su (itr (stp w h x) k (s &&& x)) w)) &&& x)), none, some (.int (nI (k + 1))), some (.long (sl ((itr (stp w h x) k (s &&& x)) &&& ((colF w (w - 1) h) ^^^ (-1))) 1)), none, some (.long (su ((itr (stp w h x) k (s &&& x)) &&& ((colF w 0 h) ^^^ (-1))) 1)), none, some (.long ((((((itr (stp w h x) k (s &&& x)) ||| (sl ((itr (stp w h x) k (s &&& x)) &&& ((colF w (w - 1) h) ^^^ (-1))) 1)) ||| (su ((itr (stp w h x) k (s &&& x)) &&& ((colF w 0 h) ^^^ (-1))) 1)) ||| (sl (itr (stp w h x) k (s &&& x)) w)) ||| (su (itr (stp w h x) k (s &&& x)) w)) &&& x)), none]) hC dX0_flood_90 rfl (nI_inc _) rfl ?_
          refine g_goto (n := 8) hC dX0_flood_93 ?_
          exact G.le (ih8 (k + 1) (by omega) _ (by first | rfl | (rw [five_x]; rfl)) _ (by first | rfl | (simp [*]; done)) (by omega)) (And.intro rfl (And.intro rfl (And.intro rfl (And.intro rfl (And.intro rfl (trivial))))))
        ·
          refine g_goto (n := 96) hC dX0_flood_83 ?_
          refine g_lload (n := 98) hC rfl dX0_flood_96 ?_
          exact g_lret hC dX0_flood_98 (⟨rL (itr_stop (by omega) (by rw [stp, ← five_x]; exact h79)), rfl, rfl, rfl⟩)
  exact lp8 _ 0 (by omega) _ (by first | rfl | (rw [five_x]; rfl)) _ (by first | rfl | (simp [*]; done)) (Nat.lt_succ_self _)

set_option maxRecDepth 20000 in
theorem X_isInside (K : GK) {σ : GS} {L : List Nat} {z : Nat} {t : Nat} {w h : Nat} (hbL : t ∈ L) (hsb : σ t = bdA w h) (hw1 : 4 ≤ w) (hw2 : w ≤ 7) (hh1 : 4 ≤ h) (hh2 : h ≤ 7) {s x : Int64} : gT K yX0_isInside cX0_isInside 5 (some .boolean) 1 [.ref t, .long s, .long x] z L (σ) (some (.int (bI (fld w h x (s &&& x) &&& edgF w h = 0)))) (σ) := by
  have hn : w * h ≤ 49 := Nat.mul_le_mul hw2 hh2
  have hn1 : 16 ≤ w * h := Nat.mul_le_mul hw1 hh1
  refine g_intro [some (.ref t), some (.long s), none, some (.long x), none] (fun Γ hC => ?_) (by simp [g_en, lv_args, Value.category])
  refine g_aload_n (n := 1) hC rfl dX0_isInside_0 ?_
  refine g_lload_n (n := 2) hC rfl dX0_isInside_1 ?_
  refine g_lload_n (n := 3) hC rfl dX0_isInside_2 ?_
  refine g_cV (n := 6) hC gv_X0_44 (hbL) (hsb) (X_flood K hbL hsb hw1 hw2 hh1 hh2) dX0_isInside_3 ?_
  refine g_aload_n (n := 7) hC rfl dX0_isInside_6 ?_
  refine g_getf (n := 10) (v := .long (edgF w h)) hC gf_X0_29 (hbL) (hsb) rfl dX0_isInside_7 ?_
  refine g_land (n := 11) hC dX0_isInside_10 ?_
  refine g_lconst (n := 12) (v := 0) hC (by decide) dX0_isInside_11 ?_
  refine g_lcmp_ne (n := 16) (tgt := 20) hC dX0_isInside_12 dX0_isInside_13 (fun h12 => ?_) (fun h12 => ?_)
  ·
    refine g_iconst (n := 21) (v := (nI 0)) hC (by decide) dX0_isInside_20 ?_
    exact g_zret hC (by rfl) dX0_isInside_21 (⟨rI (bI_f h12).symm, rfl, rfl, rfl⟩)
  ·
    refine g_iconst (n := 17) (v := (nI 1)) hC (by decide) dX0_isInside_16 ?_
    refine g_goto (n := 21) hC dX0_isInside_17 ?_
    exact g_zret hC (by rfl) dX0_isInside_21 (⟨rI (bI_t h12).symm, rfl, rfl, rfl⟩)
