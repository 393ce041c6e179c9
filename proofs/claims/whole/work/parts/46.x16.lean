/-! ===== the class: constructors ===== -/
theorem hoX0 : ∀ C T N, vwCl[0]? = some (C, T, N) → C = RX0 := fun C T N h => by
  have h2 := Option.some.inj (show some _ = some (C, T, N) from h)
  exact (congrArg (fun q => q.1) h2).symm
theorem hoX1 : ∀ C T N, vwCl[1]? = some (C, T, N) → C = RX1 := fun C T N h => by
  have h2 := Option.some.inj (show some _ = some (C, T, N) from h)
  exact (congrArg (fun q => q.1) h2).symm
theorem hoX2 : ∀ C T N, vwCl[2]? = some (C, T, N) → C = RX2 := fun C T N h => by
  have h2 := Option.some.inj (show some _ = some (C, T, N) from h)
  exact (congrArg (fun q => q.1) h2).symm
theorem hoX3 : ∀ C T N, vwCl[3]? = some (C, T, N) → C = RX3 := fun C T N h => by
  have h2 := Option.some.inj (show some _ = some (C, T, N) from h)
  exact (congrArg (fun q => q.1) h2).symm
theorem hoX4 : ∀ C T N, vwCl[4]? = some (C, T, N) → C = RX4 := fun C T N h => by
  have h2 := Option.some.inj (show some _ = some (C, T, N) from h)
  exact (congrArg (fun q => q.1) h2).symm
theorem hoX5 : ∀ C T N, vwCl[5]? = some (C, T, N) → C = RX5 := fun C T N h => by
  have h2 := Option.some.inj (show some _ = some (C, T, N) from h)
  exact (congrArg (fun q => q.1) h2).symm
theorem hoX6 : ∀ C T N, vwCl[6]? = some (C, T, N) → C = RX6 := fun C T N h => by
  have h2 := Option.some.inj (show some _ = some (C, T, N) from h)
  exact (congrArg (fun q => q.1) h2).symm
theorem hoX7 : ∀ C T N, vwCl[7]? = some (C, T, N) → C = RX7 := fun C T N h => by
  have h2 := Option.some.inj (show some _ = some (C, T, N) from h)
  exact (congrArg (fun q => q.1) h2).symm

theorem psS_n0 {f : Nat → Int32} : psS 0 f = fun _ => 0 := by
  funext k
  rw [psS]
  split <;> rfl
def d0R : RD := (fun _ => 0, 0, fun _ => 0, fun _ => 0)
theorem col_w {w h : Nat} (hw : 4 ≤ w) (hw2 : w ≤ 7) (hh : 4 ≤ h) (hh2 : h ≤ 7) : sl (colF w 0 h) (w - 1) = colF w (w - 1) h := by
  have hn : h * w ≤ 49 := Nat.mul_le_mul hh2 hw2
  apply tb_ext
  intro i hi
  rw [tb_sl, tb_colF (by omega) h (by omega), tb_colF (by omega) h (by omega)]
  rw [Bool.eq_iff_iff]
  simp only [Bool.and_eq_true, decide_eq_true_eq]
  have e0 := Nat.div_add_mod i w
  have hlt := Nat.mod_lt i (show 0 < w by omega)
  constructor
  · rintro ⟨_, h1, h2, h3⟩
    have e1 := Nat.div_add_mod (i - (w - 1)) w
    rw [h3] at e1
    have e2 : i = w * ((i - (w - 1)) / w) + (w - 1) := by omega
    have e3 : i % w = w - 1 := by rw [e2, Nat.mul_add_mod, Nat.mod_eq_of_lt (by omega)]
    refine ⟨?_, e3⟩
    have h4 : (i - (w - 1)) / w < h := by
      by_cases q : (i - (w - 1)) / w < h
      · exact q
      · have := Nat.mul_le_mul_left w (show h ≤ (i - (w - 1)) / w by omega)
        have e9 : w * h = h * w := Nat.mul_comm _ _
        omega
    have := Nat.mul_le_mul_left w (show (i - (w - 1)) / w + 1 ≤ h by omega)
    rw [Nat.mul_add] at this
    have e9 : w * h = h * w := Nat.mul_comm _ _
    omega
  · rintro ⟨h1, h2⟩
    rw [h2] at e0
    refine ⟨hi, by omega, by omega, ?_⟩
    rw [show i - (w - 1) = w * (i / w) by omega]
    exact Nat.mul_mod_right _ _

set_option maxRecDepth 20000 in
theorem X_newBoard (K : GK) {σ : GS} {L : List Nat} {z : Nat} {t : Nat} {w h : Nat} (m0 : t ∈ L) (s0 : σ t = .inr (0, [.int 0, .int 0, .int 0, .long 0, .long 0, .long 0, .long 0])) (hw1 : 4 ≤ w) (hw2 : w ≤ 7) (hh1 : 4 ≤ h) (hh2 : h ≤ 7) : gT K yX0_init cX0_init 7 none 1 [.ref t, .int (nI w), .int (nI h)] z L (σ) none (va_up σ t (bdA w h)) := by
  have hn : w * h ≤ 49 := Nat.mul_le_mul hw2 hh2
  have hn1 : 16 ≤ w * h := Nat.mul_le_mul hw1 hh1
  refine g_intro [some (.ref t), some (.int (nI w)), some (.int (nI h)), none, none, none, none] (fun Γ hC => ?_) (by simp [g_en, lv_args, Value.category])
  refine g_aload_n (n := 1) hC rfl dX0_init_0 ?_
  refine g_objI (n := 4) hC (by exact gmem (i := 85) (by decide +kernel) (by decide +kernel)) dX0_init_1 ?_
  refine g_aload_n (n := 5) hC rfl dX0_init_4 ?_
  refine g_iload_n (n := 6) hC rfl dX0_init_5 ?_
  refine g_putF (n := 9) hC gp_X0_7 rfl hoX0 (m0) (s0) dX0_init_6 ?_
  refine G.eqs (show _ = va_up (σ) t (.inr (0, [.int (nI w), .int 0, .int 0, .long 0, .long 0, .long 0, .long 0])) from rfl) ?_
  refine g_aload_n (n := 10) hC rfl dX0_init_9 ?_
  refine g_iload_n (n := 11) hC rfl dX0_init_10 ?_
  refine g_putF (n := 14) hC gp_X0_13 rfl hoX0 (m0) (va_up_self _ _ _) dX0_init_11 ?_
  refine G.eqs (show _ = va_up (σ) t (.inr (0, [.int (nI w), .int (nI h), .int 0, .long 0, .long 0, .long 0, .long 0])) from bx_uu _ _ _ _) ?_
  refine g_aload_n (n := 15) hC rfl dX0_init_14 ?_
  refine g_iload_n (n := 16) hC rfl dX0_init_15 ?_
  refine g_iload_n (n := 17) hC rfl dX0_init_16 ?_
  refine g_imulN (n := 18) hC dX0_init_17 ?_
  refine g_putF (n := 21) hC gp_X0_16 rfl hoX0 (m0) (va_up_self _ _ _) dX0_init_18 ?_
  refine G.eqs (show _ = va_up (σ) t (.inr (0, [.int (nI w), .int (nI h), .int (nI (w * h)), .long 0, .long 0, .long 0, .long 0])) from bx_uu _ _ _ _) ?_
  refine g_aload_n (n := 22) hC rfl dX0_init_21 ?_
  refine g_lconst (n := 23) (v := 1) hC (by decide) dX0_init_22 ?_
  refine g_aload_n (n := 24) hC rfl dX0_init_23 ?_
  refine g_getf (n := 27) (v := .int (nI (w * h))) hC gf_X0_16 (m0) (va_up_self _ _ _) rfl dX0_init_24 ?_
  refine g_lshlN (n := 28) hC (by omega) dX0_init_27 ?_
  refine g_lconst (n := 29) (v := 1) hC (by decide) dX0_init_28 ?_
  refine g_lsub (n := 30) hC dX0_init_29 ?_
  refine G.eql (allF_eq _ (by omega)) ?_
  refine g_putF (n := 33) hC gp_X0_19 rfl hoX0 (m0) (va_up_self _ _ _) dX0_init_30 ?_
  refine G.eqs (show _ = va_up (σ) t (.inr (0, [.int (nI w), .int (nI h), .int (nI (w * h)), .long (allF (w * h)), .long 0, .long 0, .long 0])) from bx_uu _ _ _ _) ?_
  refine g_lconst (n := 34) (v := 0) hC (by decide) dX0_init_33 ?_
  refine g_lstore_n (n := 35) (ll1 := [some (.ref t), some (.int (nI w)), some (.int (nI h)), some (.long 0), none, none, none]) hC dX0_init_34 rfl ?_
  refine g_iconst (n := 36) (v := (nI 0)) hC (by decide) dX0_init_35 ?_
  refine g_istore (n := 38) (ll1 := [some (.ref t), some (.int (nI w)), some (.int (nI h)), some (.long 0), none, some (.int (nI 0)), none]) hC dX0_init_36 rfl ?_
  have lp38 : ∀ (n9 : Nat) (k : Nat) (hk : k ≤ h) (y3 : Int64) (ey3 : y3 = (colF w 0 k)) (y5 : Int32) (ey5 : y5 = (nI k)) (hm9 : h - k < n9), G K Γ (z, 0, 0, L) (va_up (σ) t (.inr (0, [.int (nI w), .int (nI h), .int (nI (w * h)), .long (allF (w * h)), .long 0, .long 0, .long 0]))) 38 [some (.ref t), some (.int (nI w)), some (.int (nI h)), some (.long y3), none, some (.int y5), none] [] := by
    intro n9
    induction n9 with
    | zero =>
      intro k hk y3 ey3 y5 ey5 hm9
      exact absurd hm9 (Nat.not_lt_zero _)
    | succ n9 ih38 =>
      intro k hk y3 ey3 y5 ey5 hm9
      subst ey3
      subst ey5
      refine g_iload (n := 40) hC rfl dX0_init_38 ?_
      refine g_iload_n (n := 41) hC rfl dX0_init_40 ?_
      refine g_icmp_geN (n := 44) (tgt := 59) hC (by omega) (by omega) dX0_init_41 (fun h41 => ?_) (fun h41 => ?_)
      ·
        obtain rfl : h = k := by omega
        refine g_aload_n (n := 60) hC rfl dX0_init_59 ?_
        refine g_lload_n (n := 61) hC rfl dX0_init_60 ?_
        refine g_putF (n := 64) hC gp_X0_23 rfl hoX0 (m0) (va_up_self _ _ _) dX0_init_61 ?_
        refine G.eqs (show _ = va_up (σ) t (.inr (0, [.int (nI w), .int (nI h), .int (nI (w * h)), .long (allF (w * h)), .long 0, .long (colF w 0 h), .long 0])) from bx_uu _ _ _ _) ?_
        refine g_aload_n (n := 65) hC rfl dX0_init_64 ?_
        refine g_lload_n (n := 66) hC rfl dX0_init_65 ?_
        refine g_iload_n (n := 67) hC rfl dX0_init_66 ?_
        refine g_iconst (n := 68) (v := (nI 1)) hC (by decide) dX0_init_67 ?_
        refine g_isubN (n := 69) hC (by omega) dX0_init_68 ?_
        refine g_lshlN (n := 70) hC (by omega) dX0_init_69 ?_
        refine G.eql (col_w hw1 hw2 hh1 hh2) ?_
        refine g_putF (n := 73) hC gp_X0_26 rfl hoX0 (m0) (va_up_self _ _ _) dX0_init_70 ?_
        refine G.eqs (show _ = va_up (σ) t (.inr (0, [.int (nI w), .int (nI h), .int (nI (w * h)), .long (allF (w * h)), .long 0, .long (colF w 0 h), .long (colF w (w - 1) h)])) from bx_uu _ _ _ _) ?_
        refine g_lconst (n := 74) (v := 1) hC (by decide) dX0_init_73 ?_
        refine g_iload_n (n := 75) hC rfl dX0_init_74 ?_
        refine g_lshlN (n := 76) hC (by omega) dX0_init_75 ?_
        refine g_lconst (n := 77) (v := 1) hC (by decide) dX0_init_76 ?_
        refine g_lsub (n := 78) hC dX0_init_77 ?_
        refine G.eql (allF_eq _ (by omega)) ?_
        refine g_lstore (n := 80) (ll1 := [some (.ref t), some (.int (nI w)), some (.int (nI h)), some (.long (colF w 0 h)), none, some (.long (allF w)), none]) hC dX0_init_78 rfl ?_
        refine g_aload_n (n := 81) hC rfl dX0_init_80 ?_
        refine g_aload_n (n := 82) hC rfl dX0_init_81 ?_
        refine g_getf (n := 85) (v := .long (colF w 0 h)) hC gf_X0_23 (m0) (va_up_self _ _ _) rfl dX0_init_82 ?_
        refine g_aload_n (n := 86) hC rfl dX0_init_85 ?_
        refine g_getf (n := 89) (v := .long (colF w (w - 1) h)) hC gf_X0_26 (m0) (va_up_self _ _ _) rfl dX0_init_86 ?_
        refine g_lor (n := 90) hC dX0_init_89 ?_
        refine g_lload (n := 92) hC rfl dX0_init_90 ?_
        refine g_lor (n := 93) hC dX0_init_92 ?_
        refine g_lload (n := 95) hC rfl dX0_init_93 ?_
        refine g_aload_n (n := 96) hC rfl dX0_init_95 ?_
        refine g_getf (n := 99) (v := .int (nI (w * h))) hC gf_X0_16 (m0) (va_up_self _ _ _) rfl dX0_init_96 ?_
        refine g_iload_n (n := 100) hC rfl dX0_init_99 ?_
        refine g_isubN (n := 101) hC (by have := Nat.le_mul_of_pos_right w (show 0 < h by omega); omega) dX0_init_100 ?_
        refine g_lshlN (n := 102) hC (by omega) dX0_init_101 ?_
        refine g_lor (n := 103) hC dX0_init_102 ?_
        refine g_putF (n := 106) hC gp_X0_29 rfl hoX0 (m0) (va_up_self _ _ _) dX0_init_103 ?_
        refine G.eqs (show _ = va_up (σ) t (.inr (0, [.int (nI w), .int (nI h), .int (nI (w * h)), .long (allF (w * h)), .long ((((colF w 0 h) ||| (colF w (w - 1) h)) ||| (allF w)) ||| (sl (allF w) ((w * h) - w))), .long (colF w 0 h), .long (colF w (w - 1) h)])) from bx_uu _ _ _ _) ?_
        exact g_vret hC dX0_init_106 (⟨rfl, rfl, rfl, (by rw [bdA, edgF, show w * h - w = (h - 1) * w by rw [Nat.sub_mul, Nat.one_mul, Nat.mul_comm]])⟩)
      ·
        refine g_lload_n (n := 45) hC rfl dX0_init_44 ?_
        refine g_lconst (n := 46) (v := 1) hC (by decide) dX0_init_45 ?_
        refine g_iload (n := 48) hC rfl dX0_init_46 ?_
        refine g_iload_n (n := 49) hC rfl dX0_init_48 ?_
        refine g_imulN (n := 50) hC dX0_init_49 ?_
        refine g_lshlN (n := 51) hC (by have := Nat.mul_le_mul (show k ≤ 6 by omega) hw2; omega) dX0_init_50 ?_
        refine g_lor (n := 52) hC dX0_init_51 ?_
        refine G.eql (show _ = colF w 0 (k + 1) from by rw [colF, Nat.add_zero]) ?_
        refine g_lstore_n (n := 53) (ll1 := [some (.ref t), some (.int (nI w)), some (.int (nI h)), some (.long (colF w 0 (k + 1))), none, some (.int (nI k)), none]) hC dX0_init_52 rfl ?_
        refine g_iinc (n := 56) (ll1 := [some (.ref t), some (.int (nI w)), some (.int (nI h)), some (.long (colF w 0 (k + 1))), none, some (.int (nI (k + 1))), none]) hC dX0_init_53 rfl (nI_inc _) rfl ?_
        refine g_goto (n := 38) hC dX0_init_56 ?_
        exact ih38 (k + 1) (by omega) _ (by first | rfl | (simp [*]; done)) _ (by first | rfl | (simp [*]; done)) (by omega)
  exact lp38 _ 0 (by omega) _ (by first | rfl | (simp [*]; done)) _ (by first | rfl | (simp [*]; done)) (Nat.lt_succ_self _)

set_option maxRecDepth 20000 in
theorem X_newPos (K : GK) {σ : GS} {L : List Nat} {a : Nat} (m0 : a ∈ L) (s0 : σ a = .inr (4, [.null, .int 0, .int 0])) : gM K yX4_init cX4_init 1 none 1 1 6 [.ref a] (a + 1) L σ (fun r z1 L1 σ2 => r = none ∧ z1 = a + 2 ∧ L1 = ladd L (a + 1) 1 ∧ (σ2 a = .inr (4, [.ref (a + 1), .int 0, .int 0]) ∧ σ2 (a + 1) = lA K 6 (fun _ => 0) ∧ ∀ b, b < a ∨ a + 1 < b → σ2 b = σ b)) := by
  refine g_intro [some (.ref a)] (fun Γ hC => ?_) (by simp [g_en, lv_args, Value.category])
  show G K Γ (a + 1, 0, 0, ladd L (a + 1) 0) (σ) 0 [some (.ref a)] []
  refine g_aload_n (n := 1) hC rfl dX4_init_0 ?_
  refine g_objI (n := 4) hC (by exact gmem (i := 127) (by decide +kernel) (by decide +kernel)) dX4_init_1 ?_
  refine g_aload_n (n := 5) hC rfl dX4_init_4 ?_
  refine g_bipush (n := 7) (v := (nI 6)) hC (by decide) dX4_init_5 ?_
  refine g_newaJ (N := 6) (n := 9) hC rfl (by decide) (by exact gmem (i := 138) (by decide +kernel) (by decide +kernel)) dX4_init_7 ?_ (by exact ⟨Nat.le_of_ble_eq_true rfl, Nat.le_of_ble_eq_true rfl⟩)
  show G K Γ (a + 2, 1, 6, ladd L (a + 1) 1) (va_up (σ) (a + 1) (lA K 6 (fun _ => 0))) 9 [some (.ref a)] [.ref (a + 1), .ref a]
  refine g_putF (n := 12) hC gp_X4_9 rfl hoX4 ((ladd_old m0 _)) ((va_up_ne _ _ (by omega)).trans (s0)) dX4_init_9 ?_
  refine G.eqs (show _ = va_up (va_up (σ) (a + 1) (lA K 6 (fun _ => 0))) a (.inr (4, [.ref (a + 1), .int 0, .int 0])) from rfl) ?_
  exact g_vret hC dX4_init_12 (⟨rfl, rfl, rfl, va_up_self _ _ _, by simp [va_up], fun b hb => by rw [va_up_ne _ _ (by omega), va_up_ne _ _ (by omega)]⟩)

set_option maxRecDepth 20000 in
theorem X_newRd (K : GK) {σ : GS} {L : List Nat} {a : Nat} (m0 : a ∈ L) (s0 : σ a = .inr (6, [.int 0, .int 0, .int 0, .int 0, .null, .long 0, .null])) : gM K yX6_init cX6_init 1 none 2 3 17 [.ref a] (a + 1) L σ (fun r z1 L1 σ2 => r = none ∧ z1 = a + 4 ∧ L1 = ladd L (a + 1) 3 ∧ (rdD K L1 σ2 a d0R ∧ ∀ b, b < a ∨ a + 3 < b → σ2 b = σ b)) := by
  refine g_intro [some (.ref a)] (fun Γ hC => ?_) (by simp [g_en, lv_args, Value.category])
  show G K Γ (a + 1, 0, 0, ladd L (a + 1) 0) (σ) 0 [some (.ref a)] []
  refine g_aload_n (n := 1) hC rfl dX6_init_0 ?_
  refine g_objI (n := 4) hC (by exact gmem (i := 143) (by decide +kernel) (by decide +kernel)) dX6_init_1 ?_
  refine g_aload_n (n := 5) hC rfl dX6_init_4 ?_
  refine g_new (n := 8) hC gn_X6_9 dX6_init_5 ?_ (by exact ⟨Nat.le_of_ble_eq_true rfl, Nat.le_of_ble_eq_true rfl⟩)
  show G K Γ (a + 2, 1, 3, ladd L (a + 1) 1) (va_up (σ) (a + 1) (.inr (4, [.null, .int 0, .int 0]))) 8 [some (.ref a)] [.ref (a + 1), .ref a]
  refine g_dup (n := 9) hC rfl dX6_init_8 ?_
  refine g_callIN (rt2 := none) hC gi_X6_11 (X_newPos K (by exact ladd_new (i := 0) 1 (by decide)) (va_up_self _ _ _)) (by decide) (by decide) rfl (by rfl) (by exact Nat.le_of_ble_eq_true rfl) (by exact ⟨Nat.le_of_ble_eq_true rfl, Nat.le_of_ble_eq_true rfl⟩) dX6_init_9 (fun rv9 z9 L9 σ8 hp9 => ?_)
  obtain ⟨rfl, rfl, rfl, hf_σ8⟩ := hp9
  obtain ⟨p1, p2, p3⟩ := hf_σ8
  show G K Γ (a + 3, 2, 9, ladd L (a + 1) 2) (σ8) 12 [some (.ref a)] [.ref (a + 1), .ref a]
  refine g_putF (n := 15) hC gp_X6_12 rfl hoX6 ((ladd_old m0 _)) (((p3 _ (by omega)).trans ((va_up_ne _ _ (by omega)).trans (s0)))) dX6_init_12 ?_
  refine G.eqs (show _ = va_up (σ8) a (.inr (6, [.int 0, .int 0, .int 0, .int 0, .ref (a + 1), .long 0, .null])) from rfl) ?_
  refine g_aload_n (n := 16) hC rfl dX6_init_15 ?_
  refine g_bipush (n := 18) (v := (nI 8)) hC (by decide) dX6_init_16 ?_
  refine g_newaJ (N := 8) (n := 20) hC rfl (by decide) (by exact gmem (i := 138) (by decide +kernel) (by decide +kernel)) dX6_init_18 ?_ (by exact ⟨Nat.le_of_ble_eq_true rfl, Nat.le_of_ble_eq_true rfl⟩)
  show G K Γ (a + 4, 3, 17, ladd L (a + 1) 3) (va_up (va_up (σ8) a (.inr (6, [.int 0, .int 0, .int 0, .int 0, .ref (a + 1), .long 0, .null]))) (a + 3) (lA K 8 (fun _ => 0))) 20 [some (.ref a)] [.ref (a + 3), .ref a]
  refine g_putF (n := 23) hC gp_X6_18 rfl hoX6 ((ladd_old m0 _)) ((va_up_ne _ _ (by omega)).trans (va_up_self _ _ _)) dX6_init_20 ?_
  refine G.eqs (show _ = va_up (va_up (va_up (σ8) a (.inr (6, [.int 0, .int 0, .int 0, .int 0, .ref (a + 1), .long 0, .null]))) (a + 3) (lA K 8 (fun _ => 0))) a (.inr (6, [.int 0, .int 0, .int 0, .int 0, .ref (a + 1), .long 0, .ref (a + 3)])) from rfl) ?_
  exact g_vret hC dX6_init_23 (⟨rfl, rfl, rfl, ⟨⟨ladd_old m0 _, by exact ladd_new (i := 0) _ (by decide), by exact ladd_new (i := 1) _ (by decide), by exact ladd_new (i := 2) _ (by decide)⟩, va_up_self _ _ _, by rw [va_up_ne _ _ (by omega), va_up_ne _ _ (by omega), va_up_ne _ _ (by omega)]; exact p1, by rw [va_up_ne _ _ (by omega), va_up_ne _ _ (by omega), va_up_ne _ _ (by omega)]; exact p2, by rw [va_up_ne _ _ (by omega)]; exact va_up_self _ _ _⟩, fun b hb => by rw [va_up_ne _ _ (by omega), va_up_ne _ _ (by omega), va_up_ne _ _ (by omega), p3 b (by omega), va_up_ne _ _ (by omega)]⟩)

set_option maxRecDepth 20000 in
theorem X_newInput (K : GK) {σ : GS} {L : List Nat} {a : Nat} (m0 : a ∈ L) (s0 : σ a = .inr (3, [.int 0, .int 0, .null, .null])) : gM K yX3_init cX3_init 1 none 1 2 160 [.ref a] (a + 1) L σ (fun r z1 L1 σ2 => r = none ∧ z1 = a + 3 ∧ L1 = ladd L (a + 1) 2 ∧ (σ2 a = .inr (3, [.int 0, .int 0, .ref (a + 1), .ref (a + 2)]) ∧ σ2 (a + 1) = cA K 80 (fun _ => 0) ∧ σ2 (a + 2) = iA K 80 (fun _ => 0) ∧ ∀ b, b < a ∨ a + 2 < b → σ2 b = σ b)) := by
  refine g_intro [some (.ref a)] (fun Γ hC => ?_) (by simp [g_en, lv_args, Value.category])
  show G K Γ (a + 1, 0, 0, ladd L (a + 1) 0) (σ) 0 [some (.ref a)] []
  refine g_aload_n (n := 1) hC rfl dX3_init_0 ?_
  refine g_objI (n := 4) hC (by exact gmem (i := 233) (by decide +kernel) (by decide +kernel)) dX3_init_1 ?_
  refine g_aload_n (n := 5) hC rfl dX3_init_4 ?_
  refine g_bipush (n := 7) (v := (nI 80)) hC (by decide) dX3_init_5 ?_
  refine g_newaC (N := 80) (n := 9) hC rfl (by decide) (by exact gmem (i := 249) (by decide +kernel) (by decide +kernel)) dX3_init_7 ?_ (by exact ⟨Nat.le_of_ble_eq_true rfl, Nat.le_of_ble_eq_true rfl⟩)
  show G K Γ (a + 2, 1, 80, ladd L (a + 1) 1) (va_up (σ) (a + 1) (cA K 80 (fun _ => 0))) 9 [some (.ref a)] [.ref (a + 1), .ref a]
  refine g_putF (n := 12) hC gp_X3_9 rfl hoX3 ((ladd_old m0 _)) ((va_up_ne _ _ (by omega)).trans (s0)) dX3_init_9 ?_
  refine G.eqs (show _ = va_up (va_up (σ) (a + 1) (cA K 80 (fun _ => 0))) a (.inr (3, [.int 0, .int 0, .ref (a + 1), .null])) from rfl) ?_
  refine g_aload_n (n := 13) hC rfl dX3_init_12 ?_
  refine g_bipush (n := 15) (v := (nI 80)) hC (by decide) dX3_init_13 ?_
  refine g_newaI (N := 80) (n := 17) hC rfl (by decide) (by exact gmem (i := 227) (by decide +kernel) (by decide +kernel)) dX3_init_15 ?_ (by exact ⟨Nat.le_of_ble_eq_true rfl, Nat.le_of_ble_eq_true rfl⟩)
  show G K Γ (a + 3, 2, 160, ladd L (a + 1) 2) (va_up (va_up (va_up (σ) (a + 1) (cA K 80 (fun _ => 0))) a (.inr (3, [.int 0, .int 0, .ref (a + 1), .null]))) (a + 2) (iA K 80 (fun _ => 0))) 17 [some (.ref a)] [.ref (a + 2), .ref a]
  refine g_putF (n := 20) hC gp_X3_15 rfl hoX3 ((ladd_old m0 _)) ((va_up_ne _ _ (by omega)).trans (va_up_self _ _ _)) dX3_init_17 ?_
  refine G.eqs (show _ = va_up (va_up (va_up (va_up (σ) (a + 1) (cA K 80 (fun _ => 0))) a (.inr (3, [.int 0, .int 0, .ref (a + 1), .null]))) (a + 2) (iA K 80 (fun _ => 0))) a (.inr (3, [.int 0, .int 0, .ref (a + 1), .ref (a + 2)])) from rfl) ?_
  exact g_vret hC dX3_init_20 (⟨rfl, rfl, rfl, va_up_self _ _ _, by simp [va_up], by simp [va_up], fun b hb => by rw [va_up_ne _ _ (by omega), va_up_ne _ _ (by omega), va_up_ne _ _ (by omega), va_up_ne _ _ (by omega)]⟩)

set_option maxRecDepth 20000 in
theorem X_newRefusal (K : GK) {σ : GS} {L : List Nat} {a : Nat} (m0 : a ∈ L) (s0 : σ a = .inr (5, [.int 0, .null, .null])) : gM K yX5_init cX5_init 1 none 1 2 8 [.ref a] (a + 1) L σ (fun r z1 L1 σ2 => r = none ∧ z1 = a + 3 ∧ L1 = ladd L (a + 1) 2 ∧ (σ2 a = .inr (5, [.int 0, .ref (a + 1), .ref (a + 2)]) ∧ σ2 (a + 1) = iA K 4 (fun _ => 0) ∧ σ2 (a + 2) = iA K 4 (fun _ => 0) ∧ ∀ b, b < a ∨ a + 2 < b → σ2 b = σ b)) := by
  refine g_intro [some (.ref a)] (fun Γ hC => ?_) (by simp [g_en, lv_args, Value.category])
  show G K Γ (a + 1, 0, 0, ladd L (a + 1) 0) (σ) 0 [some (.ref a)] []
  refine g_aload_n (n := 1) hC rfl dX5_init_0 ?_
  refine g_objI (n := 4) hC (by exact gmem (i := 213) (by decide +kernel) (by decide +kernel)) dX5_init_1 ?_
  refine g_aload_n (n := 5) hC rfl dX5_init_4 ?_
  refine g_iconst (n := 6) (v := (nI 4)) hC (by decide) dX5_init_5 ?_
  refine g_newaI (N := 4) (n := 8) hC rfl (by decide) (by exact gmem (i := 227) (by decide +kernel) (by decide +kernel)) dX5_init_6 ?_ (by exact ⟨Nat.le_of_ble_eq_true rfl, Nat.le_of_ble_eq_true rfl⟩)
  show G K Γ (a + 2, 1, 4, ladd L (a + 1) 1) (va_up (σ) (a + 1) (iA K 4 (fun _ => 0))) 8 [some (.ref a)] [.ref (a + 1), .ref a]
  refine g_putF (n := 11) hC gp_X5_9 rfl hoX5 ((ladd_old m0 _)) ((va_up_ne _ _ (by omega)).trans (s0)) dX5_init_8 ?_
  refine G.eqs (show _ = va_up (va_up (σ) (a + 1) (iA K 4 (fun _ => 0))) a (.inr (5, [.int 0, .ref (a + 1), .null])) from rfl) ?_
  refine g_aload_n (n := 12) hC rfl dX5_init_11 ?_
  refine g_iconst (n := 13) (v := (nI 4)) hC (by decide) dX5_init_12 ?_
  refine g_newaI (N := 4) (n := 15) hC rfl (by decide) (by exact gmem (i := 227) (by decide +kernel) (by decide +kernel)) dX5_init_13 ?_ (by exact ⟨Nat.le_of_ble_eq_true rfl, Nat.le_of_ble_eq_true rfl⟩)
  show G K Γ (a + 3, 2, 8, ladd L (a + 1) 2) (va_up (va_up (va_up (σ) (a + 1) (iA K 4 (fun _ => 0))) a (.inr (5, [.int 0, .ref (a + 1), .null]))) (a + 2) (iA K 4 (fun _ => 0))) 15 [some (.ref a)] [.ref (a + 2), .ref a]
  refine g_putF (n := 18) hC gp_X5_15 rfl hoX5 ((ladd_old m0 _)) ((va_up_ne _ _ (by omega)).trans (va_up_self _ _ _)) dX5_init_15 ?_
  refine G.eqs (show _ = va_up (va_up (va_up (va_up (σ) (a + 1) (iA K 4 (fun _ => 0))) a (.inr (5, [.int 0, .ref (a + 1), .null]))) (a + 2) (iA K 4 (fun _ => 0))) a (.inr (5, [.int 0, .ref (a + 1), .ref (a + 2)])) from rfl) ?_
  exact g_vret hC dX5_init_18 (⟨rfl, rfl, rfl, va_up_self _ _ _, by simp [va_up], by simp [va_up], fun b hb => by rw [va_up_ne _ _ (by omega), va_up_ne _ _ (by omega), va_up_ne _ _ (by omega), va_up_ne _ _ (by omega)]⟩)
