/-- reading a text: tx its signs, tn how many, t the place -/
def hereP (tx : Nat → Int32) (tn t lo hi : Nat) : Prop := t < tn ∧ inR lo hi (tx t)
noncomputable def iteP {α : Type} (p : Prop) (a b : α) : α := @ite α p (Classical.propDecidable p) a b
theorem iteP_t {α : Type} {p : Prop} {a b : α} (q : p) : iteP p a b = a := if_pos q
theorem iteP_f {α : Type} {p : Prop} {a b : α} (q : ¬ p) : iteP p a b = b := if_neg q
noncomputable def chV (w h : Nat) (tx : Nat → Int32) (tn t : Nat) : Int32 × Nat := iteP (hereP tx tn t 45 45) (-1, t + 1) (iteP (hereP tx tn t 97 (97 + w - 1)) (iteP (hereP tx tn (t + 1) 49 (48 + h)) ((tx (t + 1) - nI 49) * nI w + (tx t - nI 97), t + 1 + 1) (-2, t + 1)) (-2, t))
section CV
variable {w h : Nat} {tx : Nat → Int32} {tn t : Nat}
theorem chV_1 (q : hereP tx tn t 45 45) : chV w h tx tn t = (-1, t + 1) := iteP_t q
theorem chV_2 (q : ¬ hereP tx tn t 45 45) (q2 : ¬ hereP tx tn t 97 (97 + w - 1)) : chV w h tx tn t = (-2, t) := by rw [chV, iteP_f q, iteP_f q2]
theorem chV_3 (q : ¬ hereP tx tn t 45 45) (q2 : hereP tx tn t 97 (97 + w - 1)) (q3 : ¬ hereP tx tn (t + 1) 49 (48 + h)) : chV w h tx tn t = (-2, t + 1) := by rw [chV, iteP_f q, iteP_t q2, iteP_f q3]
theorem chV_4 (q : ¬ hereP tx tn t 45 45) (q2 : hereP tx tn t 97 (97 + w - 1)) (q3 : hereP tx tn (t + 1) 49 (48 + h)) : chV w h tx tn t = ((tx (t + 1) - nI 49) * nI w + (tx t - nI 97), t + 1 + 1) := by rw [chV, iteP_f q, iteP_t q2, iteP_t q3]
theorem chV_le (ht : t ≤ tn) : (chV w h tx tn t).2 ≤ tn := by
  by_cases q : hereP tx tn t 45 45
  · rw [chV_1 q]; exact q.1
  · by_cases q2 : hereP tx tn t 97 (97 + w - 1)
    · by_cases q3 : hereP tx tn (t + 1) 49 (48 + h)
      · rw [chV_4 q q2 q3]; exact q3.1
      · rw [chV_3 q q2 q3]; exact q2.1
    · rw [chV_2 q q2]; exact ht
theorem chV_ok (hw : 1 ≤ w) (hw7 : w ≤ 7) (hh7 : h ≤ 7) : chOK (w * h) (chV w h tx tn t).1 ∨ (chV w h tx tn t).1 = -2 := by
  by_cases q : hereP tx tn t 45 45
  · rw [chV_1 q]; exact Or.inl (Or.inl rfl)
  · by_cases q2 : hereP tx tn t 97 (97 + w - 1)
    · by_cases q3 : hereP tx tn (t + 1) 49 (48 + h)
      · rw [chV_4 q q2 q3]
        obtain ⟨-, i, h1, h2, h3⟩ := q2
        obtain ⟨-, j, h4, h5, h6⟩ := q3
        refine Or.inl (Or.inr ⟨(j - 49) * w + (i - 97), ?_, ?_⟩)
        · have := Nat.mul_le_mul_right w (show j - 49 + 1 ≤ h by omega)
          rw [Nat.succ_mul, Nat.mul_comm h w] at this
          omega
        · show (tx (t + 1) - nI 49) * nI w + (tx t - nI 97) = _
          rw [h3, h6, pk_sub (by omega), pk_sub (by omega), pk_mul, nI_add]
      · rw [chV_3 q q2 q3]; exact Or.inr rfl
    · rw [chV_2 q q2]; exact Or.inr rfl
end CV
noncomputable def rdA (w h : Nat) (tx : Nat → Int32) (tn t : Nat) : Int32 := (chV w h tx tn t).1
noncomputable def rdB (w h : Nat) (tx : Nat → Int32) (tn t : Nat) : Int32 := (chV w h tx tn (chV w h tx tn t).2).1
noncomputable def rdE (w h : Nat) (tx : Nat → Int32) (tn t : Nat) : Nat := (chV w h tx tn (chV w h tx tn t).2).2
def rdO (w h : Nat) (tx : Nat → Int32) (tn t : Nat) : Prop := ¬ rdA w h tx tn t = -2 ∧ ¬ rdB w h tx tn t = -2 ∧ hereP tx tn (rdE w h tx tn t) 59 59
noncomputable def rdT (w h : Nat) (tx : Nat → Int32) (tn t : Nat) : Nat := if rdA w h tx tn t = -2 then (chV w h tx tn t).2 else if rdB w h tx tn t = -2 then rdE w h tx tn t else iteP (hereP tx tn (rdE w h tx tn t) 59 59) (rdE w h tx tn t + 1) (rdE w h tx tn t)
def txS (sc : Nat → Int32) (t : Nat) (a b : Int32) : Nat → Int32 := va_up (va_up (va_up sc 30 (nI t)) 31 a) 32 b
theorem rdT_le {w h : Nat} {tx : Nat → Int32} {tn t : Nat} (ht : t ≤ tn) : rdT w h tx tn t ≤ tn := by
  have h1 := chV_le (w := w) (h := h) (tx := tx) ht
  have h2 : rdE w h tx tn t ≤ tn := chV_le (w := w) (h := h) (tx := tx) h1
  rw [rdT]
  split
  · exact h1
  · split
    · exact h2
    · by_cases q : hereP tx tn (rdE w h tx tn t) 59 59
      · rw [iteP_t q]; exact q.1
      · rw [iteP_f q]; exact h2
noncomputable def rdZ (w h : Nat) (sc : Nat → Int32) (tx : Nat → Int32) (tn t : Nat) : Int32 := if rdA w h tx tn t = -2 then sc 32 else rdB w h tx tn t

set_option maxRecDepth 20000 in
theorem M_isHere (K : GK) {M : Nat} {sc : Nat → Int32} {ar : Nat → Nat → Int32} {σ0 : GS} {L : List Nat} {z : Nat} (hD : mdom M L)  {tn t : Nat} (htn : sc 29 = nI tn) (htn80 : tn ≤ 80) (hat : sc 30 = nI t) (ht : t ≤ tn) {lo hi : Nat} (hlo : lo < 2 ^ 31) (hhi : hi < 2 ^ 31) : gT K yX8_isHere cX8_isHere 3 (some .boolean) 0 [.ref M, .int (nI lo), .int (nI hi)] z L (mdl K M sc ar σ0) (some (.int (bI (hereP (ar 28) tn t lo hi)))) (mdl K M sc ar σ0) := by
  refine g_intro [some (.ref M), some (.int (nI lo)), some (.int (nI hi))] (fun Γ hC => ?_) (by simp [g_en, lv_args, Value.category])
  refine g_aload_n (n := 1) hC rfl dX8_isHere_0 ?_
  refine m_get (v := .int (nI t)) (n := 4) hC hD gf_X8_223 dX8_isHere_1 (congrArg (fun x => some (Value.int x)) (hat)) ?_
  refine g_aload_n (n := 5) hC rfl dX8_isHere_4 ?_
  refine m_get (v := .int (nI tn)) (n := 8) hC hD gf_X8_220 dX8_isHere_5 (congrArg (fun x => some (Value.int x)) (htn)) ?_
  refine g_icmp_geN (n := 11) (tgt := 41) hC (by omega) (by omega) dX8_isHere_8 (fun h8 => ?_) (fun h8 => ?_)
  ·
    refine g_iconst (n := 42) (v := (nI 0)) hC (by decide) dX8_isHere_41 ?_
    exact g_zret hC (by rfl) dX8_isHere_42 (⟨rI (bI_f (fun q => absurd q.1 (by omega))).symm, rfl, rfl, rfl⟩)
  ·
    refine g_aload_n (n := 12) hC rfl dX8_isHere_11 ?_
    refine m_get (v := .ref (M + 17)) (n := 15) hC hD gf_X8_65 dX8_isHere_12 rfl ?_
    refine g_aload_n (n := 16) hC rfl dX8_isHere_15 ?_
    refine m_get (v := .int (nI t)) (n := 19) hC hD gf_X8_223 dX8_isHere_16 (congrArg (fun x => some (Value.int x)) (hat)) ?_
    refine m_ld28 (x := ((ar 28) t)) (n := 20) hC hD t dX8_isHere_19 (rfl) (by omega) (rfl) ?_
    refine g_iload_n (n := 21) hC rfl dX8_isHere_20 ?_
    refine g_icmp_lt (n := 24) (tgt := 41) hC dX8_isHere_21 (fun h21 => ?_) (fun h21 => ?_)
    ·
      refine g_iconst (n := 42) (v := (nI 0)) hC (by decide) dX8_isHere_41 ?_
      exact g_zret hC (by rfl) dX8_isHere_42 (⟨rI (bI_f (fun q => absurd ((inR_iff hlo hhi).mpr q.2).1 (Int32.not_le.mpr h21))).symm, rfl, rfl, rfl⟩)
    ·
      refine g_aload_n (n := 25) hC rfl dX8_isHere_24 ?_
      refine m_get (v := .ref (M + 17)) (n := 28) hC hD gf_X8_65 dX8_isHere_25 rfl ?_
      refine g_aload_n (n := 29) hC rfl dX8_isHere_28 ?_
      refine m_get (v := .int (nI t)) (n := 32) hC hD gf_X8_223 dX8_isHere_29 (congrArg (fun x => some (Value.int x)) (hat)) ?_
      refine m_ld28 (x := ((ar 28) t)) (n := 33) hC hD t dX8_isHere_32 (rfl) (by omega) (rfl) ?_
      refine g_iload_n (n := 34) hC rfl dX8_isHere_33 ?_
      refine g_icmp_gt (n := 37) (tgt := 41) hC dX8_isHere_34 (fun h34 => ?_) (fun h34 => ?_)
      ·
        refine g_iconst (n := 42) (v := (nI 0)) hC (by decide) dX8_isHere_41 ?_
        exact g_zret hC (by rfl) dX8_isHere_42 (⟨rI (bI_f (fun q => absurd ((inR_iff hlo hhi).mpr q.2).2 (Int32.not_le.mpr h34))).symm, rfl, rfl, rfl⟩)
      ·
        refine g_iconst (n := 38) (v := (nI 1)) hC (by decide) dX8_isHere_37 ?_
        refine g_goto (n := 42) hC dX8_isHere_38 ?_
        exact g_zret hC (by rfl) dX8_isHere_42 (⟨rI (bI_t ⟨by omega, (inR_iff hlo hhi).mp ⟨Int32.not_lt.mp h21, Int32.not_lt.mp h34⟩⟩).symm, rfl, rfl, rfl⟩)

set_option maxRecDepth 20000 in
theorem M_choice (K : GK) {M : Nat} {sc : Nat → Int32} {ar : Nat → Nat → Int32} {σ0 : GS} {L : List Nat} {z : Nat} (hD : mdom M L) {w h : Nat} (hB : mB sc w h) {tn t : Nat} (htn : sc 29 = nI tn) (htn80 : tn ≤ 80) (hat : sc 30 = nI t) (ht : t ≤ tn) : gT K yX8_choice cX8_choice 3 (some .int) 1 [.ref M] z L (mdl K M sc ar σ0) (some (.int ((chV w h (ar 28) tn t).1))) (mdl K M (va_up sc 30 (nI (chV w h (ar 28) tn t).2)) ar σ0) := by
  obtain ⟨hw, hh, hw1, hw2, hh1, hh2⟩ := id hB
  have hn : w * h ≤ 49 := Nat.mul_le_mul hw2 hh2
  have hn1 : 16 ≤ w * h := Nat.mul_le_mul hw1 hh1
  refine g_intro [some (.ref M), none, none] (fun Γ hC => ?_) (by simp [g_en, lv_args, Value.category])
  refine g_aload_n (n := 1) hC rfl dX8_choice_0 ?_
  refine g_bipush (n := 3) (v := (nI 45)) hC (by decide) dX8_choice_1 ?_
  refine g_bipush (n := 5) (v := (nI 45)) hC (by decide) dX8_choice_3 ?_
  refine g_cV (n := 8) hC gv_X8_226 (hD 0 (by decide)) mdl_0 (M_isHere K hD (tn := tn) (t := t) (lo := 45) (hi := 45) (sc := sc) htn htn80 (hat) (by omega) (by omega) (by omega)) dX8_choice_5 ?_
  refine g_ifb_eq (n := 11) (tgt := 23) hC dX8_choice_8 (fun h8 => ?_) (fun h8 => ?_)
  ·
    refine g_aload_n (n := 24) hC rfl dX8_choice_23 ?_
    refine g_bipush (n := 26) (v := (nI 97)) hC (by decide) dX8_choice_24 ?_
    refine g_bipush (n := 28) (v := (nI 97)) hC (by decide) dX8_choice_26 ?_
    refine g_aload_n (n := 29) hC rfl dX8_choice_28 ?_
    refine m_get (v := .int (nI w)) (n := 32) hC hD gf_X8_9 dX8_choice_29 (congrArg (fun x => some (Value.int x)) (hw)) ?_
    refine g_iaddN (n := 33) hC dX8_choice_32 ?_
    refine g_iconst (n := 34) (v := (nI 1)) hC (by decide) dX8_choice_33 ?_
    refine g_isubN (n := 35) hC (by omega) dX8_choice_34 ?_
    refine g_i2c (n := 36) hC (i2cN (by omega)) dX8_choice_35 ?_
    refine g_cV (n := 39) hC gv_X8_226 (hD 0 (by decide)) mdl_0 (M_isHere K hD (tn := tn) (t := t) (lo := 97) (hi := (97 + w) - 1) (sc := sc) htn htn80 (hat) (by omega) (by omega) (by omega)) dX8_choice_36 ?_
    refine g_ifb_ne (n := 42) (tgt := 45) hC dX8_choice_39 (fun h39 => ?_) (fun h39 => ?_)
    ·
      have h39a := h39.1
      refine g_aload_n (n := 46) hC rfl dX8_choice_45 ?_
      refine m_get (v := .ref (M + 17)) (n := 49) hC hD gf_X8_65 dX8_choice_46 rfl ?_
      refine g_aload_n (n := 50) hC rfl dX8_choice_49 ?_
      refine m_get (v := .int (nI t)) (n := 53) hC hD gf_X8_223 dX8_choice_50 (congrArg (fun x => some (Value.int x)) (hat)) ?_
      refine m_ld28 (x := ((ar 28) t)) (n := 54) hC hD t dX8_choice_53 (rfl) (by omega) (rfl) ?_
      refine g_bipush (n := 56) (v := (nI 97)) hC (by decide) dX8_choice_54 ?_
      refine g_isub (n := 57) hC dX8_choice_56 ?_
      refine g_istore_n (n := 58) (ll1 := [some (.ref M), some (.int (((ar 28) t) - (nI 97))), none]) hC dX8_choice_57 rfl ?_
      refine g_aload_n (n := 59) hC rfl dX8_choice_58 ?_
      refine g_dup (n := 60) hC rfl dX8_choice_59 ?_
      refine m_get (v := .int (nI t)) (n := 63) hC hD gf_X8_223 dX8_choice_60 (congrArg (fun x => some (Value.int x)) (hat)) ?_
      refine g_iconst (n := 64) (v := (nI 1)) hC (by decide) dX8_choice_63 ?_
      refine g_iaddN (n := 65) hC dX8_choice_64 ?_
      refine m_put30 (n := 68) hC hD gp_X8_223 dX8_choice_65 ?_
      refine g_aload_n (n := 69) hC rfl dX8_choice_68 ?_
      refine g_bipush (n := 71) (v := (nI 49)) hC (by decide) dX8_choice_69 ?_
      refine g_bipush (n := 73) (v := (nI 48)) hC (by decide) dX8_choice_71 ?_
      refine g_aload_n (n := 74) hC rfl dX8_choice_73 ?_
      refine m_get (v := .int (nI h)) (n := 77) hC hD gf_X8_13 dX8_choice_74 (congrArg (fun x => some (Value.int x)) (hh)) ?_
      refine g_iaddN (n := 78) hC dX8_choice_77 ?_
      refine g_i2c (n := 79) hC (i2cN (by omega)) dX8_choice_78 ?_
      refine g_cV (n := 82) hC gv_X8_226 (hD 0 (by decide)) mdl_0 (M_isHere K hD (tn := tn) (t := t + 1) (lo := 49) (hi := 48 + h) (sc := va_up sc 30 (nI (t + 1))) htn htn80 (rfl) (by omega) (by omega) (by omega)) dX8_choice_79 ?_
      refine g_ifb_ne (n := 85) (tgt := 88) hC dX8_choice_82 (fun h82 => ?_) (fun h82 => ?_)
      ·
        have h82a := h82.1
        refine g_aload_n (n := 89) hC rfl dX8_choice_88 ?_
        refine m_get (v := .ref (M + 17)) (n := 92) hC hD gf_X8_65 dX8_choice_89 rfl ?_
        refine g_aload_n (n := 93) hC rfl dX8_choice_92 ?_
        refine m_get (v := .int (nI (t + 1))) (n := 96) hC hD gf_X8_223 dX8_choice_93 rfl ?_
        refine m_ld28 (x := ((ar 28) (t + 1))) (n := 97) hC hD (t + 1) dX8_choice_96 (rfl) (by omega) (rfl) ?_
        refine g_bipush (n := 99) (v := (nI 49)) hC (by decide) dX8_choice_97 ?_
        refine g_isub (n := 100) hC dX8_choice_99 ?_
        refine g_istore_n (n := 101) (ll1 := [some (.ref M), some (.int (((ar 28) t) - (nI 97))), some (.int (((ar 28) (t + 1)) - (nI 49)))]) hC dX8_choice_100 rfl ?_
        refine g_aload_n (n := 102) hC rfl dX8_choice_101 ?_
        refine g_dup (n := 103) hC rfl dX8_choice_102 ?_
        refine m_get (v := .int (nI (t + 1))) (n := 106) hC hD gf_X8_223 dX8_choice_103 rfl ?_
        refine g_iconst (n := 107) (v := (nI 1)) hC (by decide) dX8_choice_106 ?_
        refine g_iaddN (n := 108) hC dX8_choice_107 ?_
        refine m_put30 (n := 111) hC hD gp_X8_223 dX8_choice_108 ?_
        refine G.eqs mdl_ss ?_
        refine g_iload_n (n := 112) hC rfl dX8_choice_111 ?_
        refine g_aload_n (n := 113) hC rfl dX8_choice_112 ?_
        refine m_get (v := .int (nI w)) (n := 116) hC hD gf_X8_9 dX8_choice_113 (congrArg (fun x => some (Value.int x)) (hw)) ?_
        refine g_imul (n := 117) hC dX8_choice_116 ?_
        refine g_iload_n (n := 118) hC rfl dX8_choice_117 ?_
        refine g_iadd (n := 119) hC dX8_choice_118 ?_
        exact g_iret hC dX8_choice_119 (⟨rI (by rw [chV_4 h8 h39 h82]), rfl, rfl, (by rw [chV_4 h8 h39 h82])⟩)
      ·
        refine g_bipush (n := 87) (v := (-2)) hC (by decide) dX8_choice_85 ?_
        exact g_iret hC dX8_choice_87 (⟨rI (by rw [chV_3 h8 h39 h82]), rfl, rfl, (by rw [chV_3 h8 h39 h82])⟩)
    ·
      refine g_bipush (n := 44) (v := (-2)) hC (by decide) dX8_choice_42 ?_
      exact g_iret hC dX8_choice_44 (⟨rI (by rw [chV_2 h8 h39]), rfl, rfl, (by rw [chV_2 h8 h39]; exact (congrArg (fun q => mdl K M q ar σ0) (by rw [← hat]; exact (va_up_same sc 30).symm)))⟩)
  ·
    refine g_aload_n (n := 12) hC rfl dX8_choice_11 ?_
    refine g_dup (n := 13) hC rfl dX8_choice_12 ?_
    refine m_get (v := .int (nI t)) (n := 16) hC hD gf_X8_223 dX8_choice_13 (congrArg (fun x => some (Value.int x)) (hat)) ?_
    refine g_iconst (n := 17) (v := (nI 1)) hC (by decide) dX8_choice_16 ?_
    refine g_iaddN (n := 18) hC dX8_choice_17 ?_
    refine m_put30 (n := 21) hC hD gp_X8_223 dX8_choice_18 ?_
    refine g_iconst (n := 22) (v := (-1)) hC (by decide) dX8_choice_21 ?_
    exact g_iret hC dX8_choice_22 (⟨rI (by rw [chV_1 h8]), rfl, rfl, (by rw [chV_1 h8])⟩)

set_option maxRecDepth 20000 in
theorem M_isRound (K : GK) {M : Nat} {sc : Nat → Int32} {ar : Nat → Nat → Int32} {σ0 : GS} {L : List Nat} {z : Nat} (hD : mdom M L) {w h : Nat} (hB : mB sc w h) {tn t : Nat} (htn : sc 29 = nI tn) (htn80 : tn ≤ 80) (hat : sc 30 = nI t) (ht : t ≤ tn) : gT K yX8_isRound cX8_isRound 1 (some .boolean) 2 [.ref M] z L (mdl K M sc ar σ0) (some (.int (bI (rdO w h (ar 28) tn t)))) (mdl K M (txS sc (rdT w h (ar 28) tn t) (rdA w h (ar 28) tn t) (rdZ w h sc (ar 28) tn t)) ar σ0) := by
  obtain ⟨hw, hh, hw1, hw2, hh1, hh2⟩ := id hB
  have hn : w * h ≤ 49 := Nat.mul_le_mul hw2 hh2
  have hn1 : 16 ≤ w * h := Nat.mul_le_mul hw1 hh1
  have ht1 := chV_le (w := w) (h := h) (tx := ar 28) ht
  have ht2 := chV_le (w := w) (h := h) (tx := ar 28) ht1
  refine g_intro [some (.ref M)] (fun Γ hC => ?_) (by simp [g_en, lv_args, Value.category])
  refine g_aload_n (n := 1) hC rfl dX8_isRound_0 ?_
  refine g_aload_n (n := 2) hC rfl dX8_isRound_1 ?_
  refine g_cV (n := 5) hC gv_X8_230 (hD 0 (by decide)) mdl_0 (M_choice K hD hB (tn := tn) (t := t) (sc := sc) htn htn80 (hat) (by first | exact ht | exact ht1)) dX8_isRound_2 ?_
  refine G.eqs (show _ = mdl K M (va_up sc 30 (nI (chV w h (ar 28) tn t).2)) ar σ0 from rfl) ?_
  refine m_put31 (n := 8) hC hD gp_X8_233 dX8_isRound_5 ?_
  refine g_aload_n (n := 9) hC rfl dX8_isRound_8 ?_
  refine m_get (v := .int ((chV w h (ar 28) tn t).1)) (n := 12) hC hD gf_X8_233 dX8_isRound_9 rfl ?_
  refine g_bipush (n := 14) (v := (-2)) hC (by decide) dX8_isRound_12 ?_
  refine g_icmp_ne (n := 17) (tgt := 19) hC dX8_isRound_14 (fun h14 => ?_) (fun h14 => ?_)
  ·
    refine g_aload_n (n := 20) hC rfl dX8_isRound_19 ?_
    refine g_aload_n (n := 21) hC rfl dX8_isRound_20 ?_
    refine g_cV (n := 24) hC gv_X8_230 (hD 0 (by decide)) mdl_0 (M_choice K hD (show mB (va_up (va_up sc 30 (nI (chV w h (ar 28) tn t).2)) 31 ((chV w h (ar 28) tn t).1)) w h from hB) (tn := tn) (t := (chV w h (ar 28) tn t).2) (sc := va_up (va_up sc 30 (nI (chV w h (ar 28) tn t).2)) 31 ((chV w h (ar 28) tn t).1)) htn htn80 (rfl) (by first | exact ht | exact ht1)) dX8_isRound_21 ?_
    refine G.eqs (show _ = mdl K M (va_up (va_up (va_up sc 30 (nI (chV w h (ar 28) tn t).2)) 31 ((chV w h (ar 28) tn t).1)) 30 (nI (chV w h (ar 28) tn (chV w h (ar 28) tn t).2).2)) ar σ0 from rfl) ?_
    refine m_put32 (n := 27) hC hD gp_X8_236 dX8_isRound_24 ?_
    refine g_aload_n (n := 28) hC rfl dX8_isRound_27 ?_
    refine m_get (v := .int ((chV w h (ar 28) tn (chV w h (ar 28) tn t).2).1)) (n := 31) hC hD gf_X8_236 dX8_isRound_28 rfl ?_
    refine g_bipush (n := 33) (v := (-2)) hC (by decide) dX8_isRound_31 ?_
    refine g_icmp_eq (n := 36) (tgt := 47) hC dX8_isRound_33 (fun h33 => ?_) (fun h33 => ?_)
    ·
      refine g_iconst (n := 48) (v := (nI 0)) hC (by decide) dX8_isRound_47 ?_
      exact g_zret hC (by rfl) dX8_isRound_48 (⟨rI (bI_f (fun q => q.2.1 h33)).symm, rfl, rfl, (congrArg (fun q => mdl K M q ar σ0) (funext fun i => by by_cases e1 : i = 30 <;> by_cases e2 : i = 31 <;> by_cases e3 : i = 32 <;> simp [txS, rdT, rdZ, rdA, rdB, rdE, va_up, e1, e2, e3, h14, h33] <;> omega))⟩)
    ·
      refine g_aload_n (n := 37) hC rfl dX8_isRound_36 ?_
      refine g_bipush (n := 39) (v := (nI 59)) hC (by decide) dX8_isRound_37 ?_
      refine g_bipush (n := 41) (v := (nI 59)) hC (by decide) dX8_isRound_39 ?_
      refine g_cV (n := 44) hC gv_X8_226 (hD 0 (by decide)) mdl_0 (M_isHere K hD (tn := tn) (t := (chV w h (ar 28) tn (chV w h (ar 28) tn t).2).2) (lo := 59) (hi := 59) (sc := va_up (va_up (va_up (va_up sc 30 (nI (chV w h (ar 28) tn t).2)) 31 ((chV w h (ar 28) tn t).1)) 30 (nI (chV w h (ar 28) tn (chV w h (ar 28) tn t).2).2)) 32 ((chV w h (ar 28) tn (chV w h (ar 28) tn t).2).1)) htn htn80 (rfl) (by omega) (by omega) (by omega)) dX8_isRound_41 ?_
      refine g_ifb_ne (n := 47) (tgt := 49) hC dX8_isRound_44 (fun h44 => ?_) (fun h44 => ?_)
      ·
        refine g_aload_n (n := 50) hC rfl dX8_isRound_49 ?_
        refine g_dup (n := 51) hC rfl dX8_isRound_50 ?_
        refine m_get (v := .int (nI ((chV w h (ar 28) tn (chV w h (ar 28) tn t).2).2))) (n := 54) hC hD gf_X8_223 dX8_isRound_51 rfl ?_
        refine g_iconst (n := 55) (v := (nI 1)) hC (by decide) dX8_isRound_54 ?_
        refine g_iaddN (n := 56) hC dX8_isRound_55 ?_
        refine m_put30 (n := 59) hC hD gp_X8_223 dX8_isRound_56 ?_
        refine g_iconst (n := 60) (v := (nI 1)) hC (by decide) dX8_isRound_59 ?_
        exact g_zret hC (by rfl) dX8_isRound_60 (⟨rI (bI_t ⟨h14, h33, h44⟩).symm, rfl, rfl, (congrArg (fun q => mdl K M q ar σ0) (funext fun i => by by_cases e1 : i = 30 <;> by_cases e2 : i = 31 <;> by_cases e3 : i = 32 <;> simp [txS, rdT, rdZ, rdA, rdB, rdE, va_up, e1, e2, e3, h14, h33, iteP_t h44] <;> omega))⟩)
      ·
        refine g_iconst (n := 48) (v := (nI 0)) hC (by decide) dX8_isRound_47 ?_
        exact g_zret hC (by rfl) dX8_isRound_48 (⟨rI (bI_f (fun q => h44 q.2.2)).symm, rfl, rfl, (congrArg (fun q => mdl K M q ar σ0) (funext fun i => by by_cases e1 : i = 30 <;> by_cases e2 : i = 31 <;> by_cases e3 : i = 32 <;> simp [txS, rdT, rdZ, rdA, rdB, rdE, va_up, e1, e2, e3, h14, h33, iteP_f h44] <;> omega))⟩)
  ·
    refine g_iconst (n := 18) (v := (nI 0)) hC (by decide) dX8_isRound_17 ?_
    exact g_zret hC (by rfl) dX8_isRound_18 (⟨rI (bI_f (fun q => q.1 h14)).symm, rfl, rfl, (congrArg (fun q => mdl K M q ar σ0) (funext fun i => by by_cases e1 : i = 30 <;> by_cases e2 : i = 31 <;> by_cases e3 : i = 32 <;> simp [txS, rdT, rdZ, rdA, rdB, rdE, va_up, e1, e2, e3, h14] <;> omega))⟩)
