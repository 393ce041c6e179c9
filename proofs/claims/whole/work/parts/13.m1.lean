def mB (sc : Nat → Int32) (w h : Nat) : Prop := sc 1 = nI w ∧ sc 2 = nI h ∧ 4 ≤ w ∧ w ≤ 7 ∧ 4 ≤ h ∧ h ≤ 7
theorem rI {a b : Int32} (h : a = b) : some (Value.int a) = some (Value.int b) := by rw [h]
theorem rL {a b : Int64} (h : a = b) : some (Value.long a) = some (Value.long b) := by rw [h]

set_option maxRecDepth 20000 in
theorem M_thrown (K : GK) {M : Nat} {sc : Nat → Int32} {ar : Nat → Nat → Int32} {σ0 : GS} {L : List Nat} {z : Nat} (hD : mdom M L)  : gT K yX8_thrown cX8_thrown 1 (some .int) 0 [.ref M] z L (mdl K M sc ar σ0) (some (.int (sc 0))) (mdl K M sc ar σ0) := by
  refine g_intro [some (.ref M)] (fun Γ hC => ?_) (by simp [g_en, lv_args, Value.category])
  refine g_aload_n (n := 1) hC rfl dX8_thrown_0 ?_
  refine m_get (v := .int (sc 0)) (n := 4) hC hD gf_X8_73 dX8_thrown_1 rfl ?_
  exact g_iret hC dX8_thrown_4 (⟨by first | rfl | (simp [*]; done), rfl, rfl, rfl⟩)

set_option maxRecDepth 20000 in
theorem M_no (K : GK) {M : Nat} {sc : Nat → Int32} {ar : Nat → Nat → Int32} {σ0 : GS} {L : List Nat} {z : Nat} (hD : mdom M L) {x : Int32} : gT K yX8_no cX8_no 2 (some .int) 0 [.ref M, .int x] z L (mdl K M sc ar σ0) (some (.int (nI 0))) (mdl K M (va_up sc 0 x) ar σ0) := by
  refine g_intro [some (.ref M), some (.int x)] (fun Γ hC => ?_) (by simp [g_en, lv_args, Value.category])
  refine g_aload_n (n := 1) hC rfl dX8_no_0 ?_
  refine g_iload_n (n := 2) hC rfl dX8_no_1 ?_
  refine m_put0 (n := 5) hC hD gp_X8_73 dX8_no_2 ?_
  refine g_iconst (n := 6) (v := (nI 0)) hC (by decide) dX8_no_5 ?_
  exact g_iret hC dX8_no_6 (⟨by first | rfl | (simp [*]; done), rfl, rfl, rfl⟩)

set_option maxRecDepth 20000 in
theorem M_isIn (K : GK) {M : Nat} {sc : Nat → Int32} {ar : Nat → Nat → Int32} {σ0 : GS} {L : List Nat} {z : Nat} (hD : mdom M L) {x lo hi : Int32} : gT K yX8_isIn cX8_isIn 3 (some .boolean) 0 [.int x, .int lo, .int hi] z L (mdl K M sc ar σ0) (some (.int (bI (lo ≤ x ∧ x ≤ hi)))) (mdl K M sc ar σ0) := by
  refine g_intro [some (.int x), some (.int lo), some (.int hi)] (fun Γ hC => ?_) (by simp [g_en, lv_args, Value.category])
  refine g_iload_n (n := 1) hC rfl dX8_isIn_0 ?_
  refine g_iload_n (n := 2) hC rfl dX8_isIn_1 ?_
  refine g_icmp_lt (n := 5) (tgt := 14) hC dX8_isIn_2 (fun h2 => ?_) (fun h2 => ?_)
  ·
    refine g_iconst (n := 15) (v := (nI 0)) hC (by decide) dX8_isIn_14 ?_
    exact g_zret hC (by rfl) dX8_isIn_15 (⟨by first | exact rI (bI_t ⟨Int32.not_lt.mp h2, Int32.not_lt.mp h7⟩).symm | exact rI (bI_f (fun q => absurd q.1 (Int32.not_le.mpr h2))).symm | exact rI (bI_f (fun q => absurd q.2 (Int32.not_le.mpr h7))).symm, rfl, rfl, rfl⟩)
  ·
    refine g_iload_n (n := 6) hC rfl dX8_isIn_5 ?_
    refine g_iload_n (n := 7) hC rfl dX8_isIn_6 ?_
    refine g_icmp_gt (n := 10) (tgt := 14) hC dX8_isIn_7 (fun h7 => ?_) (fun h7 => ?_)
    ·
      refine g_iconst (n := 15) (v := (nI 0)) hC (by decide) dX8_isIn_14 ?_
      exact g_zret hC (by rfl) dX8_isIn_15 (⟨by first | exact rI (bI_t ⟨Int32.not_lt.mp h2, Int32.not_lt.mp h7⟩).symm | exact rI (bI_f (fun q => absurd q.1 (Int32.not_le.mpr h2))).symm | exact rI (bI_f (fun q => absurd q.2 (Int32.not_le.mpr h7))).symm, rfl, rfl, rfl⟩)
    ·
      refine g_iconst (n := 11) (v := (nI 1)) hC (by decide) dX8_isIn_10 ?_
      refine g_goto (n := 15) hC dX8_isIn_11 ?_
      exact g_zret hC (by rfl) dX8_isIn_15 (⟨by first | exact rI (bI_t ⟨Int32.not_lt.mp h2, Int32.not_lt.mp h7⟩).symm | exact rI (bI_f (fun q => absurd q.1 (Int32.not_le.mpr h2))).symm | exact rI (bI_f (fun q => absurd q.2 (Int32.not_le.mpr h7))).symm, rfl, rfl, rfl⟩)

set_option maxRecDepth 20000 in
theorem M_cells (K : GK) {M : Nat} {sc : Nat → Int32} {ar : Nat → Nat → Int32} {σ0 : GS} {L : List Nat} {z : Nat} (hD : mdom M L) {w h : Nat} (hB : mB sc w h) : gT K yX8_cells cX8_cells 1 (some .int) 0 [.ref M] z L (mdl K M sc ar σ0) (some (.int (nI (w * h)))) (mdl K M sc ar σ0) := by
  obtain ⟨hw, hh, hw1, hw2, hh1, hh2⟩ := id hB
  have hn : w * h ≤ 49 := Nat.mul_le_mul hw2 hh2
  have hn1 : 16 ≤ w * h := Nat.mul_le_mul hw1 hh1
  refine g_intro [some (.ref M)] (fun Γ hC => ?_) (by simp [g_en, lv_args, Value.category])
  refine g_aload_n (n := 1) hC rfl dX8_cells_0 ?_
  refine m_get (v := .int (nI w)) (n := 4) hC hD gf_X8_9 dX8_cells_1 (congrArg (fun x => some (Value.int x)) (hw)) ?_
  refine g_aload_n (n := 5) hC rfl dX8_cells_4 ?_
  refine m_get (v := .int (nI h)) (n := 8) hC hD gf_X8_13 dX8_cells_5 (congrArg (fun x => some (Value.int x)) (hh)) ?_
  refine g_imulN (n := 9) hC dX8_cells_8 ?_
  exact g_iret hC dX8_cells_9 (⟨by first | rfl | (simp [*]; done), rfl, rfl, rfl⟩)

set_option maxRecDepth 20000 in
theorem M_isCell (K : GK) {M : Nat} {sc : Nat → Int32} {ar : Nat → Nat → Int32} {σ0 : GS} {L : List Nat} {z : Nat} (hD : mdom M L) {w h : Nat} (hB : mB sc w h) {x : Int32} : gT K yX8_isCell cX8_isCell 2 (some .boolean) 1 [.ref M, .int x] z L (mdl K M sc ar σ0) (some (.int (bI (nI 0 ≤ x ∧ x ≤ nI (w * h - 1))))) (mdl K M sc ar σ0) := by
  obtain ⟨hw, hh, hw1, hw2, hh1, hh2⟩ := id hB
  have hn : w * h ≤ 49 := Nat.mul_le_mul hw2 hh2
  have hn1 : 16 ≤ w * h := Nat.mul_le_mul hw1 hh1
  refine g_intro [some (.ref M), some (.int x)] (fun Γ hC => ?_) (by simp [g_en, lv_args, Value.category])
  refine g_iload_n (n := 1) hC rfl dX8_isCell_0 ?_
  refine g_iconst (n := 2) (v := (nI 0)) hC (by decide) dX8_isCell_1 ?_
  refine g_aload_n (n := 3) hC rfl dX8_isCell_2 ?_
  refine g_cV (n := 6) hC gv_X8_76 (hD 0 (by decide)) mdl_0 (M_cells K hD hB) dX8_isCell_3 ?_
  refine g_iconst (n := 7) (v := (nI 1)) hC (by decide) dX8_isCell_6 ?_
  refine g_isubN (n := 8) hC (by omega) dX8_isCell_7 ?_
  refine g_cS (n := 11) hC gs_X8_80 (M_isIn K hD) dX8_isCell_8 ?_
  exact g_zret hC (bI_n) dX8_isCell_11 (⟨by first | rfl | (simp [*]; done), rfl, rfl, rfl⟩)

set_option maxRecDepth 20000 in
theorem M_many (K : GK) {M : Nat} {sc : Nat → Int32} {ar : Nat → Nat → Int32} {σ0 : GS} {L : List Nat} {z : Nat} (hD : mdom M L) {w h : Nat} (hB : mB sc w h) {x : Int32} : gT K yX8_many cX8_many 4 (some .int) 1 [.ref M, .int x] z L (mdl K M sc ar σ0) (some (.int (nI (ct (fun i => decide (ar 5 i = x)) (w * h))))) (mdl K M sc ar σ0) := by
  obtain ⟨hw, hh, hw1, hw2, hh1, hh2⟩ := id hB
  have hn : w * h ≤ 49 := Nat.mul_le_mul hw2 hh2
  have hn1 : 16 ≤ w * h := Nat.mul_le_mul hw1 hh1
  refine g_intro [some (.ref M), some (.int x), none, none] (fun Γ hC => ?_) (by simp [g_en, lv_args, Value.category])
  refine g_iconst (n := 1) (v := (nI 0)) hC (by decide) dX8_many_0 ?_
  refine g_istore_n (n := 2) (ll1 := [some (.ref M), some (.int x), some (.int (nI 0)), none]) hC dX8_many_1 rfl ?_
  refine g_iconst (n := 3) (v := (nI 0)) hC (by decide) dX8_many_2 ?_
  refine g_istore_n (n := 4) (ll1 := [some (.ref M), some (.int x), some (.int (nI 0)), some (.int (nI 0))]) hC dX8_many_3 rfl ?_
  have lp4 : ∀ (n9 : Nat) (c : Nat) (hc : c ≤ w * h) (y2 : Int32) (ey2 : y2 = (nI (ct (fun i => decide (ar 5 i = x)) c))) (y3 : Int32) (ey3 : y3 = (nI c)) (hm9 : w * h - c < n9), G K Γ (z, 0, 0, L) (mdl K M sc ar σ0) 4 [some (.ref M), some (.int x), some (.int y2), some (.int y3)] [] := by
    intro n9
    induction n9 with
    | zero =>
      intro c hc y2 ey2 y3 ey3 hm9
      exact absurd hm9 (Nat.not_lt_zero _)
    | succ n9 ih4 =>
      intro c hc y2 ey2 y3 ey3 hm9
      subst ey2
      subst ey3
      refine g_iload_n (n := 5) hC rfl dX8_many_4 ?_
      refine g_aload_n (n := 6) hC rfl dX8_many_5 ?_
      refine g_cV (n := 9) hC gv_X8_76 (hD 0 (by decide)) mdl_0 (M_cells K hD hB) dX8_many_6 ?_
      refine g_icmp_geN (n := 12) (tgt := 36) hC (by omega) (by omega) dX8_many_9 (fun h9 => ?_) (fun h9 => ?_)
      ·
        refine g_iload_n (n := 37) hC rfl dX8_many_36 ?_
        exact g_iret hC dX8_many_37 (⟨rI (by rw [show c = w * h by omega]), rfl, rfl, rfl⟩)
      ·
        refine g_iload_n (n := 13) hC rfl dX8_many_12 ?_
        refine g_aload_n (n := 14) hC rfl dX8_many_13 ?_
        refine m_get (v := .ref (M + 2)) (n := 17) hC hD gf_X8_20 dX8_many_14 rfl ?_
        refine g_iload_n (n := 18) hC rfl dX8_many_17 ?_
        refine m_ld5 (x := ((ar 5) c)) (n := 19) hC hD c dX8_many_18 (rfl) (by omega) (rfl) ?_
        refine g_iload_n (n := 20) hC rfl dX8_many_19 ?_
        refine g_icmp_ne (n := 23) (tgt := 27) hC dX8_many_20 (fun h20 => ?_) (fun h20 => ?_)
        ·
          refine g_iconst (n := 28) (v := (nI 0)) hC (by decide) dX8_many_27 ?_
          refine g_iaddN (n := 29) hC dX8_many_28 ?_
          refine g_istore_n (n := 30) (ll1 := [some (.ref M), some (.int x), some (.int (nI ((ct (fun i => decide (ar 5 i = x)) c) + 0))), some (.int (nI c))]) hC dX8_many_29 rfl ?_
          refine g_iinc (n := 33) (ll1 := [some (.ref M), some (.int x), some (.int (nI ((ct (fun i => decide (ar 5 i = x)) c) + 0))), some (.int (nI (c + 1)))]) hC dX8_many_30 rfl (nI_inc _) rfl ?_
          refine g_goto (n := 4) hC dX8_many_33 ?_
          exact ih4 (c + 1) (by omega) _ (by first | rfl | (simp [ct, *]; done) | (simp only [nI_add, ct]; simp [*])) _ (by first | rfl | (simp [ct, *]; done) | (simp only [nI_add, ct]; simp [*])) (by omega)
        ·
          refine g_iconst (n := 24) (v := (nI 1)) hC (by decide) dX8_many_23 ?_
          refine g_goto (n := 28) hC dX8_many_24 ?_
          refine g_iaddN (n := 29) hC dX8_many_28 ?_
          refine g_istore_n (n := 30) (ll1 := [some (.ref M), some (.int x), some (.int (nI ((ct (fun i => decide (ar 5 i = x)) c) + 1))), some (.int (nI c))]) hC dX8_many_29 rfl ?_
          refine g_iinc (n := 33) (ll1 := [some (.ref M), some (.int x), some (.int (nI ((ct (fun i => decide (ar 5 i = x)) c) + 1))), some (.int (nI (c + 1)))]) hC dX8_many_30 rfl (nI_inc _) rfl ?_
          refine g_goto (n := 4) hC dX8_many_33 ?_
          exact ih4 (c + 1) (by omega) _ (by first | rfl | (simp [ct, *]; done) | (simp only [nI_add, ct]; simp [*])) _ (by first | rfl | (simp [ct, *]; done) | (simp only [nI_add, ct]; simp [*])) (by omega)
  exact lp4 _ 0 (by omega) _ (by first | rfl | (simp [ct, *]; done) | (simp only [nI_add, ct]; simp [*])) _ (by first | rfl | (simp [ct, *]; done) | (simp only [nI_add, ct]; simp [*])) (Nat.lt_succ_self _)

set_option maxRecDepth 20000 in
theorem M_bits (K : GK) {M : Nat} {sc : Nat → Int32} {ar : Nat → Nat → Int32} {σ0 : GS} {L : List Nat} {z : Nat} (hD : mdom M L) {w h : Nat} (hB : mB sc w h) {x : Int32} : gT K yX8_bits cX8_bits 5 (some .long) 1 [.ref M, .int x] z L (mdl K M sc ar σ0) (some (.long (bitsF (fun i => decide (ar 5 i = x)) (w * h)))) (mdl K M sc ar σ0) := by
  obtain ⟨hw, hh, hw1, hw2, hh1, hh2⟩ := id hB
  have hn : w * h ≤ 49 := Nat.mul_le_mul hw2 hh2
  have hn1 : 16 ≤ w * h := Nat.mul_le_mul hw1 hh1
  refine g_intro [some (.ref M), some (.int x), none, none, none] (fun Γ hC => ?_) (by simp [g_en, lv_args, Value.category])
  refine g_lconst (n := 1) (v := 0) hC (by decide) dX8_bits_0 ?_
  refine g_lstore_n (n := 2) (ll1 := [some (.ref M), some (.int x), some (.long 0), none, none]) hC dX8_bits_1 rfl ?_
  refine g_iconst (n := 3) (v := (nI 0)) hC (by decide) dX8_bits_2 ?_
  refine g_istore (n := 5) (ll1 := [some (.ref M), some (.int x), some (.long 0), none, some (.int (nI 0))]) hC dX8_bits_3 rfl ?_
  have lp5 : ∀ (n9 : Nat) (c : Nat) (hc : c ≤ w * h) (y2 : Int64) (ey2 : y2 = (bitsF (fun i => decide (ar 5 i = x)) c)) (y4 : Int32) (ey4 : y4 = (nI c)) (hm9 : w * h - c < n9), G K Γ (z, 0, 0, L) (mdl K M sc ar σ0) 5 [some (.ref M), some (.int x), some (.long y2), none, some (.int y4)] [] := by
    intro n9
    induction n9 with
    | zero =>
      intro c hc y2 ey2 y4 ey4 hm9
      exact absurd hm9 (Nat.not_lt_zero _)
    | succ n9 ih5 =>
      intro c hc y2 ey2 y4 ey4 hm9
      subst ey2
      subst ey4
      refine g_iload (n := 7) hC rfl dX8_bits_5 ?_
      refine g_aload_n (n := 8) hC rfl dX8_bits_7 ?_
      refine g_cV (n := 11) hC gv_X8_76 (hD 0 (by decide)) mdl_0 (M_cells K hD hB) dX8_bits_8 ?_
      refine g_icmp_geN (n := 14) (tgt := 42) hC (by omega) (by omega) dX8_bits_11 (fun h11 => ?_) (fun h11 => ?_)
      ·
        refine g_lload_n (n := 43) hC rfl dX8_bits_42 ?_
        exact g_lret hC dX8_bits_43 (⟨rL (by rw [show c = w * h by omega]), rfl, rfl, rfl⟩)
      ·
        refine g_lload_n (n := 15) hC rfl dX8_bits_14 ?_
        refine g_aload_n (n := 16) hC rfl dX8_bits_15 ?_
        refine m_get (v := .ref (M + 2)) (n := 19) hC hD gf_X8_20 dX8_bits_16 rfl ?_
        refine g_iload (n := 21) hC rfl dX8_bits_19 ?_
        refine m_ld5 (x := ((ar 5) c)) (n := 22) hC hD c dX8_bits_21 (rfl) (by omega) (rfl) ?_
        refine g_iload_n (n := 23) hC rfl dX8_bits_22 ?_
        refine g_icmp_ne (n := 26) (tgt := 33) hC dX8_bits_23 (fun h23 => ?_) (fun h23 => ?_)
        ·
          refine g_lconst (n := 34) (v := 0) hC (by decide) dX8_bits_33 ?_
          refine g_lor (n := 35) hC dX8_bits_34 ?_
          refine g_lstore_n (n := 36) (ll1 := [some (.ref M), some (.int x), some (.long ((bitsF (fun i => decide (ar 5 i = x)) c) ||| 0)), none, some (.int (nI c))]) hC dX8_bits_35 rfl ?_
          refine g_iinc (n := 39) (ll1 := [some (.ref M), some (.int x), some (.long ((bitsF (fun i => decide (ar 5 i = x)) c) ||| 0)), none, some (.int (nI (c + 1)))]) hC dX8_bits_36 rfl (nI_inc _) rfl ?_
          refine g_goto (n := 5) hC dX8_bits_39 ?_
          exact ih5 (c + 1) (by omega) _ (by first | rfl | (simp [bitsF, *]; done)) _ (by first | rfl | (simp [bitsF, *]; done)) (by omega)
        ·
          refine g_lconst (n := 27) (v := 1) hC (by decide) dX8_bits_26 ?_
          refine g_iload (n := 29) hC rfl dX8_bits_27 ?_
          refine g_lshlN (n := 30) hC (by omega) dX8_bits_29 ?_
          refine g_goto (n := 34) hC dX8_bits_30 ?_
          refine g_lor (n := 35) hC dX8_bits_34 ?_
          refine g_lstore_n (n := 36) (ll1 := [some (.ref M), some (.int x), some (.long ((bitsF (fun i => decide (ar 5 i = x)) c) ||| (sl 1 c))), none, some (.int (nI c))]) hC dX8_bits_35 rfl ?_
          refine g_iinc (n := 39) (ll1 := [some (.ref M), some (.int x), some (.long ((bitsF (fun i => decide (ar 5 i = x)) c) ||| (sl 1 c))), none, some (.int (nI (c + 1)))]) hC dX8_bits_36 rfl (nI_inc _) rfl ?_
          refine g_goto (n := 5) hC dX8_bits_39 ?_
          exact ih5 (c + 1) (by omega) _ (by first | rfl | (simp [bitsF, *]; done)) _ (by first | rfl | (simp [bitsF, *]; done)) (by omega)
  exact lp5 _ 0 (by omega) _ (by first | rfl | (simp [bitsF, *]; done)) _ (by first | rfl | (simp [bitsF, *]; done)) (Nat.lt_succ_self _)

theorem stp_all {w h : Nat} (hn : w * h ≤ 64) {x s : Int64} (hx : ∀ i, tb x i = true → i < w * h) : (five w h s &&& allF (w * h)) &&& x = stp w h x s := by
  apply tb_ext
  intro i _
  rw [stp, tb_and, tb_and, tb_and, tb_all hn]
  cases e : tb x i
  · simp
  · simp [hx i e]
theorem sa1_i {c : Nat} (hc : c < 64) (x : Int64) : (sa x c &&& 1).toInt32 = nI (if tb x c then 1 else 0) := by
  rw [sa1_and hc]
  cases tb x c <;> rfl
def outF (f : Nat → Int32) (n p : Nat) : Int64 := allF n &&& (bitsF (fun i => decide (f i = nI (1 + p))) n ^^^ (-1)) &&& (bitsF (fun i => decide (f i = nI (3 + p))) n ^^^ (-1)) &&& (bitsF (fun i => decide (f i = nI 5)) n ^^^ (-1))
def mny (f : Nat → Int32) (n : Nat) (x : Int32) : Nat := ct (fun i => decide (f i = x)) n
def scF (f g : Nat → Int32) (n p : Nat) : Int32 := nI (mny f n (nI (3 + p))) + nI 2 * f (147 + p) + g p
def ovF (f : Nat → Int32) (n : Nat) : Prop := f 154 = nI 1 ∨ f 153 = nI 60 ∨ mny f n (nI 0) = 0
def becF (f : Nat → Int32) (c : Nat) (x y : Int32) : Nat → Int32 := va_up (va_up (va_up f c x) (49 + c) (f 153)) (98 + c) y
def chOK (n : Nat) (x : Int32) : Prop := x = -1 ∨ ∃ j, j < n ∧ x = nI j
def mayF (f : Nat → Int32) (x : Int32) : Prop := x = -1 ∨ f x.toNatClampNeg = 0

set_option maxRecDepth 20000 in
theorem M_all (K : GK) {M : Nat} {sc : Nat → Int32} {ar : Nat → Nat → Int32} {σ0 : GS} {L : List Nat} {z : Nat} (hD : mdom M L) {w h : Nat} (hB : mB sc w h) : gT K yX8_all cX8_all 1 (some .long) 1 [.ref M] z L (mdl K M sc ar σ0) (some (.long (allF (w * h)))) (mdl K M sc ar σ0) := by
  obtain ⟨hw, hh, hw1, hw2, hh1, hh2⟩ := id hB
  have hn : w * h ≤ 49 := Nat.mul_le_mul hw2 hh2
  have hn1 : 16 ≤ w * h := Nat.mul_le_mul hw1 hh1
  refine g_intro [some (.ref M)] (fun Γ hC => ?_) (by simp [g_en, lv_args, Value.category])
  refine g_lconst (n := 1) (v := 1) hC (by decide) dX8_all_0 ?_
  refine g_aload_n (n := 2) hC rfl dX8_all_1 ?_
  refine g_cV (n := 5) hC gv_X8_76 (hD 0 (by decide)) mdl_0 (M_cells K hD hB) dX8_all_2 ?_
  refine g_lshlN (n := 6) hC (by omega) dX8_all_5 ?_
  refine g_lconst (n := 7) (v := 1) hC (by decide) dX8_all_6 ?_
  refine g_lsub (n := 8) hC dX8_all_7 ?_
  exact g_lret hC dX8_all_8 (⟨rL (allF_eq _ (by omega)), rfl, rfl, rfl⟩)

set_option maxRecDepth 20000 in
theorem M_column (K : GK) {M : Nat} {sc : Nat → Int32} {ar : Nat → Nat → Int32} {σ0 : GS} {L : List Nat} {z : Nat} (hD : mdom M L) {w h : Nat} (hB : mB sc w h) {k : Nat} (hk : k < w) : gT K yX8_column cX8_column 5 (some .long) 0 [.ref M, .int (nI k)] z L (mdl K M sc ar σ0) (some (.long (colF w k h))) (mdl K M sc ar σ0) := by
  obtain ⟨hw, hh, hw1, hw2, hh1, hh2⟩ := id hB
  have hn : w * h ≤ 49 := Nat.mul_le_mul hw2 hh2
  have hn1 : 16 ≤ w * h := Nat.mul_le_mul hw1 hh1
  refine g_intro [some (.ref M), some (.int (nI k)), none, none, none] (fun Γ hC => ?_) (by simp [g_en, lv_args, Value.category])
  refine g_lconst (n := 1) (v := 0) hC (by decide) dX8_column_0 ?_
  refine g_lstore_n (n := 2) (ll1 := [some (.ref M), some (.int (nI k)), some (.long 0), none, none]) hC dX8_column_1 rfl ?_
  refine g_iconst (n := 3) (v := (nI 0)) hC (by decide) dX8_column_2 ?_
  refine g_istore (n := 5) (ll1 := [some (.ref M), some (.int (nI k)), some (.long 0), none, some (.int (nI 0))]) hC dX8_column_3 rfl ?_
  have lp5 : ∀ (n9 : Nat) (r : Nat) (hr : r ≤ h) (y2 : Int64) (ey2 : y2 = (colF w k r)) (y4 : Int32) (ey4 : y4 = (nI r)) (hm9 : h - r < n9), G K Γ (z, 0, 0, L) (mdl K M sc ar σ0) 5 [some (.ref M), some (.int (nI k)), some (.long y2), none, some (.int y4)] [] := by
    intro n9
    induction n9 with
    | zero =>
      intro r hr y2 ey2 y4 ey4 hm9
      exact absurd hm9 (Nat.not_lt_zero _)
    | succ n9 ih5 =>
      intro r hr y2 ey2 y4 ey4 hm9
      subst ey2
      subst ey4
      refine g_iload (n := 7) hC rfl dX8_column_5 ?_
      refine g_aload_n (n := 8) hC rfl dX8_column_7 ?_
      refine m_get (v := .int (nI h)) (n := 11) hC hD gf_X8_13 dX8_column_8 (congrArg (fun x => some (Value.int x)) (hh)) ?_
      refine g_icmp_geN (n := 14) (tgt := 34) hC (by omega) (by omega) dX8_column_11 (fun h11 => ?_) (fun h11 => ?_)
      ·
        refine g_lload_n (n := 35) hC rfl dX8_column_34 ?_
        exact g_lret hC dX8_column_35 (⟨rL (by rw [show r = h by omega]), rfl, rfl, rfl⟩)
      ·
        refine g_lload_n (n := 15) hC rfl dX8_column_14 ?_
        refine g_lconst (n := 16) (v := 1) hC (by decide) dX8_column_15 ?_
        refine g_iload (n := 18) hC rfl dX8_column_16 ?_
        refine g_aload_n (n := 19) hC rfl dX8_column_18 ?_
        refine m_get (v := .int (nI w)) (n := 22) hC hD gf_X8_9 dX8_column_19 (congrArg (fun x => some (Value.int x)) (hw)) ?_
        refine g_imulN (n := 23) hC dX8_column_22 ?_
        refine g_iload_n (n := 24) hC rfl dX8_column_23 ?_
        refine g_iaddN (n := 25) hC dX8_column_24 ?_
        refine g_lshlN (n := 26) hC (by have := Nat.mul_le_mul_right w (show r + 1 ≤ h by omega); rw [Nat.succ_mul, Nat.mul_comm h w] at this; omega) dX8_column_25 ?_
        refine g_lor (n := 27) hC dX8_column_26 ?_
        refine g_lstore_n (n := 28) (ll1 := [some (.ref M), some (.int (nI k)), some (.long ((colF w k r) ||| (sl 1 ((r * w) + k)))), none, some (.int (nI r))]) hC dX8_column_27 rfl ?_
        refine g_iinc (n := 31) (ll1 := [some (.ref M), some (.int (nI k)), some (.long ((colF w k r) ||| (sl 1 ((r * w) + k)))), none, some (.int (nI (r + 1)))]) hC dX8_column_28 rfl (nI_inc _) rfl ?_
        refine g_goto (n := 5) hC dX8_column_31 ?_
        exact ih5 (r + 1) (by omega) _ (by first | rfl | (simp [*]; done)) _ (by first | rfl | (simp [*]; done)) (by omega)
  exact lp5 _ 0 (by omega) _ (by first | rfl | (simp [*]; done)) _ (by first | rfl | (simp [*]; done)) (Nat.lt_succ_self _)

set_option maxRecDepth 20000 in
theorem M_edge (K : GK) {M : Nat} {sc : Nat → Int32} {ar : Nat → Nat → Int32} {σ0 : GS} {L : List Nat} {z : Nat} (hD : mdom M L) {w h : Nat} (hB : mB sc w h) : gT K yX8_edge cX8_edge 3 (some .long) 1 [.ref M] z L (mdl K M sc ar σ0) (some (.long (edgF w h))) (mdl K M sc ar σ0) := by
  obtain ⟨hw, hh, hw1, hw2, hh1, hh2⟩ := id hB
  have hn : w * h ≤ 49 := Nat.mul_le_mul hw2 hh2
  have hn1 : 16 ≤ w * h := Nat.mul_le_mul hw1 hh1
  refine g_intro [some (.ref M), none, none] (fun Γ hC => ?_) (by simp [g_en, lv_args, Value.category])
  refine g_lconst (n := 1) (v := 1) hC (by decide) dX8_edge_0 ?_
  refine g_aload_n (n := 2) hC rfl dX8_edge_1 ?_
  refine m_get (v := .int (nI w)) (n := 5) hC hD gf_X8_9 dX8_edge_2 (congrArg (fun x => some (Value.int x)) (hw)) ?_
  refine g_lshlN (n := 6) hC (by omega) dX8_edge_5 ?_
  refine g_lconst (n := 7) (v := 1) hC (by decide) dX8_edge_6 ?_
  refine g_lsub (n := 8) hC dX8_edge_7 ?_
  refine g_lstore_n (n := 9) (ll1 := [some (.ref M), some (.long ((sl 1 w) - 1)), none]) hC dX8_edge_8 rfl ?_
  refine g_aload_n (n := 10) hC rfl dX8_edge_9 ?_
  refine g_iconst (n := 11) (v := (nI 0)) hC (by decide) dX8_edge_10 ?_
  refine g_cV (n := 14) hC gv_X8_91 (hD 0 (by decide)) mdl_0 (M_column K hD hB (k := 0) (by omega)) dX8_edge_11 ?_
  refine g_aload_n (n := 15) hC rfl dX8_edge_14 ?_
  refine g_aload_n (n := 16) hC rfl dX8_edge_15 ?_
  refine m_get (v := .int (nI w)) (n := 19) hC hD gf_X8_9 dX8_edge_16 (congrArg (fun x => some (Value.int x)) (hw)) ?_
  refine g_iconst (n := 20) (v := (nI 1)) hC (by decide) dX8_edge_19 ?_
  refine g_isubN (n := 21) hC (by omega) dX8_edge_20 ?_
  refine g_cV (n := 24) hC gv_X8_91 (hD 0 (by decide)) mdl_0 (M_column K hD hB (k := w - 1) (by omega)) dX8_edge_21 ?_
  refine g_lor (n := 25) hC dX8_edge_24 ?_
  refine g_lload_n (n := 26) hC rfl dX8_edge_25 ?_
  refine g_lor (n := 27) hC dX8_edge_26 ?_
  refine g_lload_n (n := 28) hC rfl dX8_edge_27 ?_
  refine g_aload_n (n := 29) hC rfl dX8_edge_28 ?_
  refine m_get (v := .int (nI h)) (n := 32) hC hD gf_X8_13 dX8_edge_29 (congrArg (fun x => some (Value.int x)) (hh)) ?_
  refine g_iconst (n := 33) (v := (nI 1)) hC (by decide) dX8_edge_32 ?_
  refine g_isubN (n := 34) hC (by omega) dX8_edge_33 ?_
  refine g_aload_n (n := 35) hC rfl dX8_edge_34 ?_
  refine m_get (v := .int (nI w)) (n := 38) hC hD gf_X8_9 dX8_edge_35 (congrArg (fun x => some (Value.int x)) (hw)) ?_
  refine g_imulN (n := 39) hC dX8_edge_38 ?_
  refine g_lshlN (n := 40) hC (by have := Nat.mul_le_mul (show h - 1 ≤ 6 by omega) hw2; omega) dX8_edge_39 ?_
  refine g_lor (n := 41) hC dX8_edge_40 ?_
  exact g_lret hC dX8_edge_41 (⟨rL (by rw [allF_eq w (by omega)]; rfl), rfl, rfl, rfl⟩)

set_option maxRecDepth 20000 in
theorem M_grown (K : GK) {M : Nat} {sc : Nat → Int32} {ar : Nat → Nat → Int32} {σ0 : GS} {L : List Nat} {z : Nat} (hD : mdom M L) {w h : Nat} (hB : mB sc w h) {x : Int64} : gT K yX8_grown cX8_grown 3 (some .long) 2 [.ref M, .long x] z L (mdl K M sc ar σ0) (some (.long (five w h x &&& allF (w * h)))) (mdl K M sc ar σ0) := by
  obtain ⟨hw, hh, hw1, hw2, hh1, hh2⟩ := id hB
  have hn : w * h ≤ 49 := Nat.mul_le_mul hw2 hh2
  have hn1 : 16 ≤ w * h := Nat.mul_le_mul hw1 hh1
  refine g_intro [some (.ref M), some (.long x), none] (fun Γ hC => ?_) (by simp [g_en, lv_args, Value.category])
  refine g_lload_n (n := 1) hC rfl dX8_grown_0 ?_
  refine g_lload_n (n := 2) hC rfl dX8_grown_1 ?_
  refine g_aload_n (n := 3) hC rfl dX8_grown_2 ?_
  refine g_iconst (n := 4) (v := (nI 0)) hC (by decide) dX8_grown_3 ?_
  refine g_cV (n := 7) hC gv_X8_91 (hD 0 (by decide)) mdl_0 (M_column K hD hB (k := 0) (by omega)) dX8_grown_4 ?_
  refine g_ldc2 (n := 10) hC gc_X8_95 dX8_grown_7 ?_
  refine g_lxor (n := 11) hC dX8_grown_10 ?_
  refine g_land (n := 12) hC dX8_grown_11 ?_
  refine g_iconst (n := 13) (v := (nI 1)) hC (by decide) dX8_grown_12 ?_
  refine g_lushrN (n := 14) hC (by omega) dX8_grown_13 ?_
  refine g_lor (n := 15) hC dX8_grown_14 ?_
  refine g_lload_n (n := 16) hC rfl dX8_grown_15 ?_
  refine g_aload_n (n := 17) hC rfl dX8_grown_16 ?_
  refine g_aload_n (n := 18) hC rfl dX8_grown_17 ?_
  refine m_get (v := .int (nI w)) (n := 21) hC hD gf_X8_9 dX8_grown_18 (congrArg (fun x => some (Value.int x)) (hw)) ?_
  refine g_iconst (n := 22) (v := (nI 1)) hC (by decide) dX8_grown_21 ?_
  refine g_isubN (n := 23) hC (by omega) dX8_grown_22 ?_
  refine g_cV (n := 26) hC gv_X8_91 (hD 0 (by decide)) mdl_0 (M_column K hD hB (k := w - 1) (by omega)) dX8_grown_23 ?_
  refine g_ldc2 (n := 29) hC gc_X8_95 dX8_grown_26 ?_
  refine g_lxor (n := 30) hC dX8_grown_29 ?_
  refine g_land (n := 31) hC dX8_grown_30 ?_
  refine g_iconst (n := 32) (v := (nI 1)) hC (by decide) dX8_grown_31 ?_
  refine g_lshlN (n := 33) hC (by omega) dX8_grown_32 ?_
  refine g_lor (n := 34) hC dX8_grown_33 ?_
  refine g_lload_n (n := 35) hC rfl dX8_grown_34 ?_
  refine g_aload_n (n := 36) hC rfl dX8_grown_35 ?_
  refine m_get (v := .int (nI w)) (n := 39) hC hD gf_X8_9 dX8_grown_36 (congrArg (fun x => some (Value.int x)) (hw)) ?_
  refine g_lushrN (n := 40) hC (by omega) dX8_grown_39 ?_
  refine g_lor (n := 41) hC dX8_grown_40 ?_
  refine g_lload_n (n := 42) hC rfl dX8_grown_41 ?_
  refine g_aload_n (n := 43) hC rfl dX8_grown_42 ?_
  refine m_get (v := .int (nI w)) (n := 46) hC hD gf_X8_9 dX8_grown_43 (congrArg (fun x => some (Value.int x)) (hw)) ?_
  refine g_lshlN (n := 47) hC (by omega) dX8_grown_46 ?_
  refine g_lor (n := 48) hC dX8_grown_47 ?_
  refine g_aload_n (n := 49) hC rfl dX8_grown_48 ?_
  refine g_cV (n := 52) hC gv_X8_97 (hD 0 (by decide)) mdl_0 (M_all K hD hB) dX8_grown_49 ?_
  refine g_land (n := 53) hC dX8_grown_52 ?_
  exact g_lret hC dX8_grown_53 (⟨by first | rfl | (simp [*]; done), rfl, rfl, rfl⟩)

set_option maxRecDepth 20000 in
theorem M_connected (K : GK) {M : Nat} {sc : Nat → Int32} {ar : Nat → Nat → Int32} {σ0 : GS} {L : List Nat} {z : Nat} (hD : mdom M L) {w h : Nat} (hB : mB sc w h) {x : Int64} {c : Nat} (hx : ∀ i, tb x i = true → i < w * h) (hc : tb x c = true) : gT K yX8_connected cX8_connected 8 (some .long) 3 [.ref M, .long x, .int (nI c)] z L (mdl K M sc ar σ0) (some (.long (rgn w h x c))) (mdl K M sc ar σ0) := by
  obtain ⟨hw, hh, hw1, hw2, hh1, hh2⟩ := id hB
  have hn : w * h ≤ 49 := Nat.mul_le_mul hw2 hh2
  have hn1 : 16 ≤ w * h := Nat.mul_le_mul hw1 hh1
  have hc64 := tb_lt hc
  refine g_intro [some (.ref M), some (.long x), none, some (.int (nI c)), none, none, none, none] (fun Γ hC => ?_) (by simp [g_en, lv_args, Value.category])
  have lp15 : ∀ (n9 : Nat) (k : Nat) (y4 : Int64) (ey4 : y4 = (itr (stp w h x) k (sl 1 c))) (y6 : Int64) (ey6 : y6 = (itr (stp w h x) (k + 1) (sl 1 c))) (hm9 : w * h - k < n9), G K Γ (z, 0, 0, L) (mdl K M sc ar σ0) 15 [some (.ref M), some (.long x), none, some (.int (nI c)), some (.long y4), none, some (.long y6), none] [] := by
    intro n9
    induction n9 with
    | zero =>
      intro k y4 ey4 y6 ey6 hm9
      exact absurd hm9 (Nat.not_lt_zero _)
    | succ n9 ih15 =>
      intro k y4 ey4 y6 ey6 hm9
      subst ey4
      subst ey6
      refine g_lload (n := 17) hC rfl dX8_connected_15 ?_
      refine g_lload (n := 19) hC rfl dX8_connected_17 ?_
      refine g_lcmp_eq (n := 23) (tgt := 40) hC dX8_connected_19 dX8_connected_20 (fun h19 => ?_) (fun h19 => ?_)
      ·
        refine g_lload (n := 42) hC rfl dX8_connected_40 ?_
        exact g_lret hC dX8_connected_42 (⟨rL (fld_itr hx (sub_one hc) h19), rfl, rfl, rfl⟩)
      ·
        refine g_lload (n := 25) hC rfl dX8_connected_23 ?_
        refine g_lstore (n := 27) (ll1 := [some (.ref M), some (.long x), none, some (.int (nI c)), some (.long (itr (stp w h x) (k + 1) (sl 1 c))), none, some (.long (itr (stp w h x) (k + 1) (sl 1 c))), none]) hC dX8_connected_25 rfl ?_
        refine g_aload_n (n := 28) hC rfl dX8_connected_27 ?_
        refine g_lload (n := 30) hC rfl dX8_connected_28 ?_
        refine g_cV (n := 33) hC gv_X8_101 (hD 0 (by decide)) mdl_0 (M_grown K hD hB) dX8_connected_30 ?_
        refine g_lload_n (n := 34) hC rfl dX8_connected_33 ?_
        refine g_land (n := 35) hC dX8_connected_34 ?_
        refine g_lstore (n := 37) (ll1 := [some (.ref M), some (.long x), none, some (.int (nI c)), some (.long (itr (stp w h x) (k + 1) (sl 1 c))), none, some (.long ((five w h (itr (stp w h x) (k + 1) (sl 1 c)) &&& allF (w * h)) &&& x)), none]) hC dX8_connected_35 rfl ?_
        refine g_goto (n := 15) hC dX8_connected_37 ?_
        exact ih15 (k + 1) _ (by first | rfl | exact stp_all (by omega) hx) _ (by first | rfl | exact stp_all (by omega) hx) (by have := Nat.not_le.mp (fun q => h19 (itr_past hx (sub_one hc) q)); omega)
  refine g_lconst (n := 1) (v := 1) hC (by decide) dX8_connected_0 ?_
  refine g_iload_n (n := 2) hC rfl dX8_connected_1 ?_
  refine g_lshlN (n := 3) hC (by omega) dX8_connected_2 ?_
  refine g_lstore (n := 5) (ll1 := [some (.ref M), some (.long x), none, some (.int (nI c)), some (.long (sl 1 c)), none, none, none]) hC dX8_connected_3 rfl ?_
  refine g_aload_n (n := 6) hC rfl dX8_connected_5 ?_
  refine g_lload (n := 8) hC rfl dX8_connected_6 ?_
  refine g_cV (n := 11) hC gv_X8_101 (hD 0 (by decide)) mdl_0 (M_grown K hD hB) dX8_connected_8 ?_
  refine g_lload_n (n := 12) hC rfl dX8_connected_11 ?_
  refine g_land (n := 13) hC dX8_connected_12 ?_
  refine g_lstore (n := 15) (ll1 := [some (.ref M), some (.long x), none, some (.int (nI c)), some (.long (sl 1 c)), none, some (.long ((five w h (sl 1 c) &&& allF (w * h)) &&& x)), none]) hC dX8_connected_13 rfl ?_
  exact lp15 _ 0 _ (by first | rfl | exact stp_all (by omega) hx) _ (by first | rfl | exact stp_all (by omega) hx) (Nat.lt_succ_self _)

set_option maxRecDepth 20000 in
theorem M_size (K : GK) {M : Nat} {sc : Nat → Int32} {ar : Nat → Nat → Int32} {σ0 : GS} {L : List Nat} {z : Nat} (hD : mdom M L) {x : Int64} : gT K yX8_size cX8_size 4 (some .int) 0 [.long x] z L (mdl K M sc ar σ0) (some (.int (nI (ct (tb x) 49)))) (mdl K M sc ar σ0) := by
  refine g_intro [some (.long x), none, none, none] (fun Γ hC => ?_) (by simp [g_en, lv_args, Value.category])
  refine g_iconst (n := 1) (v := (nI 0)) hC (by decide) dX8_size_0 ?_
  refine g_istore_n (n := 2) (ll1 := [some (.long x), none, some (.int (nI 0)), none]) hC dX8_size_1 rfl ?_
  refine g_iconst (n := 3) (v := (nI 0)) hC (by decide) dX8_size_2 ?_
  refine g_istore_n (n := 4) (ll1 := [some (.long x), none, some (.int (nI 0)), some (.int (nI 0))]) hC dX8_size_3 rfl ?_
  have lp4 : ∀ (n9 : Nat) (c : Nat) (hc : c ≤ 49) (y2 : Int32) (ey2 : y2 = (nI (ct (tb x) c))) (y3 : Int32) (ey3 : y3 = (nI c)) (hm9 : 49 - c < n9), G K Γ (z, 0, 0, L) (mdl K M sc ar σ0) 4 [some (.long x), none, some (.int y2), some (.int y3)] [] := by
    intro n9
    induction n9 with
    | zero =>
      intro c hc y2 ey2 y3 ey3 hm9
      exact absurd hm9 (Nat.not_lt_zero _)
    | succ n9 ih4 =>
      intro c hc y2 ey2 y3 ey3 hm9
      subst ey2
      subst ey3
      refine g_iload_n (n := 5) hC rfl dX8_size_4 ?_
      refine g_bipush (n := 7) (v := (nI 49)) hC (by decide) dX8_size_5 ?_
      refine g_icmp_geN (n := 10) (tgt := 25) hC (by omega) (by omega) dX8_size_7 (fun h7 => ?_) (fun h7 => ?_)
      ·
        refine g_iload_n (n := 26) hC rfl dX8_size_25 ?_
        exact g_iret hC dX8_size_26 (⟨rI (by rw [show c = 49 by omega]), rfl, rfl, rfl⟩)
      ·
        refine g_iload_n (n := 11) hC rfl dX8_size_10 ?_
        refine g_lload_n (n := 12) hC rfl dX8_size_11 ?_
        refine g_iload_n (n := 13) hC rfl dX8_size_12 ?_
        refine g_lshrN (n := 14) hC (by omega) dX8_size_13 ?_
        refine g_lconst (n := 15) (v := 1) hC (by decide) dX8_size_14 ?_
        refine g_land (n := 16) hC dX8_size_15 ?_
        refine g_l2i (n := 17) hC rfl dX8_size_16 ?_
        refine g_iadd (n := 18) hC dX8_size_17 ?_
        refine g_istore_n (n := 19) (ll1 := [some (.long x), none, some (.int ((nI (ct (tb x) c)) + ((((sa x c) &&& 1)).toInt32))), some (.int (nI c))]) hC dX8_size_18 rfl ?_
        refine g_iinc (n := 22) (ll1 := [some (.long x), none, some (.int ((nI (ct (tb x) c)) + ((((sa x c) &&& 1)).toInt32))), some (.int (nI (c + 1)))]) hC dX8_size_19 rfl (nI_inc _) rfl ?_
        refine g_goto (n := 4) hC dX8_size_22 ?_
        exact ih4 (c + 1) (by omega) _ (by first | rfl | (rw [sa1_i (by omega)]; exact nI_add _ _)) _ (by first | rfl | (rw [sa1_i (by omega)]; exact nI_add _ _)) (by omega)
  exact lp4 _ 0 (by omega) _ (by first | rfl | (rw [sa1_i (by omega)]; exact nI_add _ _)) _ (by first | rfl | (rw [sa1_i (by omega)]; exact nI_add _ _)) (Nat.lt_succ_self _)

set_option maxRecDepth 20000 in
theorem M_lowest (K : GK) {M : Nat} {sc : Nat → Int32} {ar : Nat → Nat → Int32} {σ0 : GS} {L : List Nat} {z : Nat} (hD : mdom M L) {x : Int64} {m : Nat} (hm : tb x m = true) (hl : ∀ i, i < m → tb x i = false) : gT K yX8_lowest cX8_lowest 3 (some .int) 0 [.long x] z L (mdl K M sc ar σ0) (some (.int (nI m))) (mdl K M sc ar σ0) := by
  have hm64 := tb_lt hm
  refine g_intro [some (.long x), none, none] (fun Γ hC => ?_) (by simp [g_en, lv_args, Value.category])
  refine g_iconst (n := 1) (v := (nI 0)) hC (by decide) dX8_lowest_0 ?_
  refine g_istore_n (n := 2) (ll1 := [some (.long x), none, some (.int (nI 0))]) hC dX8_lowest_1 rfl ?_
  have lp2 : ∀ (n9 : Nat) (c : Nat) (hc : c ≤ m) (y2 : Int32) (ey2 : y2 = (nI c)) (hm9 : m - c < n9), G K Γ (z, 0, 0, L) (mdl K M sc ar σ0) 2 [some (.long x), none, some (.int y2)] [] := by
    intro n9
    induction n9 with
    | zero =>
      intro c hc y2 ey2 hm9
      exact absurd hm9 (Nat.not_lt_zero _)
    | succ n9 ih2 =>
      intro c hc y2 ey2 hm9
      subst ey2
      refine g_lload_n (n := 3) hC rfl dX8_lowest_2 ?_
      refine g_iload_n (n := 4) hC rfl dX8_lowest_3 ?_
      refine g_lshrN (n := 5) hC (by omega) dX8_lowest_4 ?_
      refine g_lconst (n := 6) (v := 1) hC (by decide) dX8_lowest_5 ?_
      refine g_land (n := 7) hC dX8_lowest_6 ?_
      refine g_lconst (n := 8) (v := 0) hC (by decide) dX8_lowest_7 ?_
      refine g_lcmp_ne (n := 12) (tgt := 18) hC dX8_lowest_8 dX8_lowest_9 (fun h8 => ?_) (fun h8 => ?_)
      ·
        refine g_iload_n (n := 19) hC rfl dX8_lowest_18 ?_
        exact g_iret hC dX8_lowest_19 (⟨rI (by rcases Nat.lt_or_ge c m with q | q; exact absurd ((sa1_0 (by omega) x).mpr (hl c q)) h8; rw [show c = m by omega]), rfl, rfl, rfl⟩)
      ·
        have hcm : c < m := by
          rcases Nat.lt_or_ge c m with q | q
          · exact q
          · rw [show c = m by omega, sa1_0 hm64, hm] at h8
            cases h8
        refine g_iinc (n := 15) (ll1 := [some (.long x), none, some (.int (nI (c + 1)))]) hC dX8_lowest_12 rfl (nI_inc _) rfl ?_
        refine g_goto (n := 2) hC dX8_lowest_15 ?_
        exact ih2 (c + 1) (by omega) _ (by first | rfl | (simp [*]; done)) (by omega)
  exact lp2 _ 0 (by omega) _ (by first | rfl | (simp [*]; done)) (Nat.lt_succ_self _)

set_option maxRecDepth 20000 in
theorem M_outside (K : GK) {M : Nat} {sc : Nat → Int32} {ar : Nat → Nat → Int32} {σ0 : GS} {L : List Nat} {z : Nat} (hD : mdom M L) {w h : Nat} (hB : mB sc w h) {p : Nat} (hp : p ≤ 1) : gT K yX8_outside cX8_outside 2 (some .long) 2 [.ref M, .int (nI p)] z L (mdl K M sc ar σ0) (some (.long (outF (ar 5) (w * h) p))) (mdl K M sc ar σ0) := by
  obtain ⟨hw, hh, hw1, hw2, hh1, hh2⟩ := id hB
  have hn : w * h ≤ 49 := Nat.mul_le_mul hw2 hh2
  have hn1 : 16 ≤ w * h := Nat.mul_le_mul hw1 hh1
  refine g_intro [some (.ref M), some (.int (nI p))] (fun Γ hC => ?_) (by simp [g_en, lv_args, Value.category])
  refine g_aload_n (n := 1) hC rfl dX8_outside_0 ?_
  refine g_cV (n := 4) hC gv_X8_97 (hD 0 (by decide)) mdl_0 (M_all K hD hB) dX8_outside_1 ?_
  refine g_aload_n (n := 5) hC rfl dX8_outside_4 ?_
  refine g_iconst (n := 6) (v := (nI 1)) hC (by decide) dX8_outside_5 ?_
  refine g_iload_n (n := 7) hC rfl dX8_outside_6 ?_
  refine g_iaddN (n := 8) hC dX8_outside_7 ?_
  refine g_cV (n := 11) hC gv_X8_105 (hD 0 (by decide)) mdl_0 (M_bits K hD hB) dX8_outside_8 ?_
  refine g_ldc2 (n := 14) hC gc_X8_95 dX8_outside_11 ?_
  refine g_lxor (n := 15) hC dX8_outside_14 ?_
  refine g_land (n := 16) hC dX8_outside_15 ?_
  refine g_aload_n (n := 17) hC rfl dX8_outside_16 ?_
  refine g_iconst (n := 18) (v := (nI 3)) hC (by decide) dX8_outside_17 ?_
  refine g_iload_n (n := 19) hC rfl dX8_outside_18 ?_
  refine g_iaddN (n := 20) hC dX8_outside_19 ?_
  refine g_cV (n := 23) hC gv_X8_105 (hD 0 (by decide)) mdl_0 (M_bits K hD hB) dX8_outside_20 ?_
  refine g_ldc2 (n := 26) hC gc_X8_95 dX8_outside_23 ?_
  refine g_lxor (n := 27) hC dX8_outside_26 ?_
  refine g_land (n := 28) hC dX8_outside_27 ?_
  refine g_aload_n (n := 29) hC rfl dX8_outside_28 ?_
  refine g_iconst (n := 30) (v := (nI 5)) hC (by decide) dX8_outside_29 ?_
  refine g_cV (n := 33) hC gv_X8_105 (hD 0 (by decide)) mdl_0 (M_bits K hD hB) dX8_outside_30 ?_
  refine g_ldc2 (n := 36) hC gc_X8_95 dX8_outside_33 ?_
  refine g_lxor (n := 37) hC dX8_outside_36 ?_
  refine g_land (n := 38) hC dX8_outside_37 ?_
  exact g_lret hC dX8_outside_38 (⟨by first | rfl | (simp [*]; done), rfl, rfl, rfl⟩)

set_option maxRecDepth 20000 in
theorem M_score (K : GK) {M : Nat} {sc : Nat → Int32} {ar : Nat → Nat → Int32} {σ0 : GS} {L : List Nat} {z : Nat} (hD : mdom M L) {w h : Nat} (hB : mB sc w h) {p : Nat} (hp : p ≤ 1) : gT K yX8_score cX8_score 2 (some .int) 2 [.ref M, .int (nI p)] z L (mdl K M sc ar σ0) (some (.int (scF (ar 5) (ar 4) (w * h) p))) (mdl K M sc ar σ0) := by
  obtain ⟨hw, hh, hw1, hw2, hh1, hh2⟩ := id hB
  have hn : w * h ≤ 49 := Nat.mul_le_mul hw2 hh2
  have hn1 : 16 ≤ w * h := Nat.mul_le_mul hw1 hh1
  refine g_intro [some (.ref M), some (.int (nI p))] (fun Γ hC => ?_) (by simp [g_en, lv_args, Value.category])
  refine g_aload_n (n := 1) hC rfl dX8_score_0 ?_
  refine g_iconst (n := 2) (v := (nI 3)) hC (by decide) dX8_score_1 ?_
  refine g_iload_n (n := 3) hC rfl dX8_score_2 ?_
  refine g_iaddN (n := 4) hC dX8_score_3 ?_
  refine g_cV (n := 7) hC gv_X8_84 (hD 0 (by decide)) mdl_0 (M_many K hD hB) dX8_score_4 ?_
  refine g_iconst (n := 8) (v := (nI 2)) hC (by decide) dX8_score_7 ?_
  refine g_aload_n (n := 9) hC rfl dX8_score_8 ?_
  refine m_get (v := .ref (M + 2)) (n := 12) hC hD gf_X8_20 dX8_score_9 rfl ?_
  refine g_sipush (n := 15) (v := (nI 147)) hC (by decide) dX8_score_12 ?_
  refine g_iload_n (n := 16) hC rfl dX8_score_15 ?_
  refine g_iaddN (n := 17) hC dX8_score_16 ?_
  refine m_ld5 (x := ((ar 5) (147 + p))) (n := 18) hC hD (147 + p) dX8_score_17 (rfl) (by omega) (rfl) ?_
  refine g_imul (n := 19) hC dX8_score_18 ?_
  refine g_iadd (n := 20) hC dX8_score_19 ?_
  refine g_aload_n (n := 21) hC rfl dX8_score_20 ?_
  refine m_get (v := .ref (M + 1)) (n := 24) hC hD gf_X8_16 dX8_score_21 rfl ?_
  refine g_iload_n (n := 25) hC rfl dX8_score_24 ?_
  refine m_ld4 (x := ((ar 4) p)) (n := 26) hC hD p dX8_score_25 (rfl) (by omega) (rfl) ?_
  refine g_iadd (n := 27) hC dX8_score_26 ?_
  exact g_iret hC dX8_score_27 (⟨by first | rfl | (simp [*]; done), rfl, rfl, rfl⟩)

set_option maxRecDepth 20000 in
theorem M_emptyCells (K : GK) {M : Nat} {sc : Nat → Int32} {ar : Nat → Nat → Int32} {σ0 : GS} {L : List Nat} {z : Nat} (hD : mdom M L) {w h : Nat} (hB : mB sc w h) : gT K yX8_emptyCells cX8_emptyCells 1 (some .int) 2 [.ref M] z L (mdl K M sc ar σ0) (some (.int (nI (mny (ar 5) (w * h) (nI 0))))) (mdl K M sc ar σ0) := by
  obtain ⟨hw, hh, hw1, hw2, hh1, hh2⟩ := id hB
  have hn : w * h ≤ 49 := Nat.mul_le_mul hw2 hh2
  have hn1 : 16 ≤ w * h := Nat.mul_le_mul hw1 hh1
  refine g_intro [some (.ref M)] (fun Γ hC => ?_) (by simp [g_en, lv_args, Value.category])
  refine g_aload_n (n := 1) hC rfl dX8_emptyCells_0 ?_
  refine g_iconst (n := 2) (v := (nI 0)) hC (by decide) dX8_emptyCells_1 ?_
  refine g_cV (n := 5) hC gv_X8_84 (hD 0 (by decide)) mdl_0 (M_many K hD hB) dX8_emptyCells_2 ?_
  exact g_iret hC dX8_emptyCells_5 (⟨by first | rfl | (simp [*]; done), rfl, rfl, rfl⟩)

set_option maxRecDepth 20000 in
theorem M_over (K : GK) {M : Nat} {sc : Nat → Int32} {ar : Nat → Nat → Int32} {σ0 : GS} {L : List Nat} {z : Nat} (hD : mdom M L) {w h : Nat} (hB : mB sc w h) : gT K yX8_over cX8_over 1 (some .boolean) 3 [.ref M] z L (mdl K M sc ar σ0) (some (.int (bI (ovF (ar 5) (w * h))))) (mdl K M sc ar σ0) := by
  obtain ⟨hw, hh, hw1, hw2, hh1, hh2⟩ := id hB
  have hn : w * h ≤ 49 := Nat.mul_le_mul hw2 hh2
  have hn1 : 16 ≤ w * h := Nat.mul_le_mul hw1 hh1
  have hb9 : mny (ar 5) (w * h) (nI 0) ≤ w * h := ct_le _ _
  refine g_intro [some (.ref M)] (fun Γ hC => ?_) (by simp [g_en, lv_args, Value.category])
  refine g_aload_n (n := 1) hC rfl dX8_over_0 ?_
  refine m_get (v := .ref (M + 2)) (n := 4) hC hD gf_X8_20 dX8_over_1 rfl ?_
  refine g_sipush (n := 7) (v := (nI 154)) hC (by decide) dX8_over_4 ?_
  refine m_ld5 (x := ((ar 5) 154)) (n := 8) hC hD 154 dX8_over_7 (rfl) (by omega) (rfl) ?_
  refine g_iconst (n := 9) (v := (nI 1)) hC (by decide) dX8_over_8 ?_
  refine g_icmp_eq (n := 12) (tgt := 32) hC dX8_over_9 (fun h9 => ?_) (fun h9 => ?_)
  ·
    refine g_iconst (n := 33) (v := (nI 1)) hC (by decide) dX8_over_32 ?_
    refine g_goto (n := 37) hC dX8_over_33 ?_
    exact g_zret hC (by rfl) dX8_over_37 (⟨by first | exact rI (bI_t (Or.inl h9)).symm | exact rI (bI_t (Or.inr (Or.inl h22))).symm | exact rI (bI_t (Or.inr (Or.inr h29))).symm | exact rI (bI_f (fun q => q.elim h9 (fun q => q.elim h22 h29))).symm, rfl, rfl, rfl⟩)
  ·
    refine g_aload_n (n := 13) hC rfl dX8_over_12 ?_
    refine m_get (v := .ref (M + 2)) (n := 16) hC hD gf_X8_20 dX8_over_13 rfl ?_
    refine g_sipush (n := 19) (v := (nI 153)) hC (by decide) dX8_over_16 ?_
    refine m_ld5 (x := ((ar 5) 153)) (n := 20) hC hD 153 dX8_over_19 (rfl) (by omega) (rfl) ?_
    refine g_bipush (n := 22) (v := (nI 60)) hC (by decide) dX8_over_20 ?_
    refine g_icmp_eq (n := 25) (tgt := 32) hC dX8_over_22 (fun h22 => ?_) (fun h22 => ?_)
    ·
      refine g_iconst (n := 33) (v := (nI 1)) hC (by decide) dX8_over_32 ?_
      refine g_goto (n := 37) hC dX8_over_33 ?_
      exact g_zret hC (by rfl) dX8_over_37 (⟨by first | exact rI (bI_t (Or.inl h9)).symm | exact rI (bI_t (Or.inr (Or.inl h22))).symm | exact rI (bI_t (Or.inr (Or.inr h29))).symm | exact rI (bI_f (fun q => q.elim h9 (fun q => q.elim h22 h29))).symm, rfl, rfl, rfl⟩)
    ·
      refine g_aload_n (n := 26) hC rfl dX8_over_25 ?_
      refine g_cV (n := 29) hC gv_X8_108 (hD 0 (by decide)) mdl_0 (M_emptyCells K hD hB) dX8_over_26 ?_
      refine g_if_neN (n := 32) (tgt := 36) hC (by omega) dX8_over_29 (fun h29 => ?_) (fun h29 => ?_)
      ·
        refine g_iconst (n := 37) (v := (nI 0)) hC (by decide) dX8_over_36 ?_
        exact g_zret hC (by rfl) dX8_over_37 (⟨by first | exact rI (bI_t (Or.inl h9)).symm | exact rI (bI_t (Or.inr (Or.inl h22))).symm | exact rI (bI_t (Or.inr (Or.inr h29))).symm | exact rI (bI_f (fun q => q.elim h9 (fun q => q.elim h22 h29))).symm, rfl, rfl, rfl⟩)
      ·
        refine g_iconst (n := 33) (v := (nI 1)) hC (by decide) dX8_over_32 ?_
        refine g_goto (n := 37) hC dX8_over_33 ?_
        exact g_zret hC (by rfl) dX8_over_37 (⟨by first | exact rI (bI_t (Or.inl h9)).symm | exact rI (bI_t (Or.inr (Or.inl h22))).symm | exact rI (bI_t (Or.inr (Or.inr h29))).symm | exact rI (bI_f (fun q => q.elim h9 (fun q => q.elim h22 h29))).symm, rfl, rfl, rfl⟩)

set_option maxRecDepth 20000 in
theorem M_becomes (K : GK) {M : Nat} {sc : Nat → Int32} {ar : Nat → Nat → Int32} {σ0 : GS} {L : List Nat} {z : Nat} (hD : mdom M L) {w h : Nat} (hB : mB sc w h) {c : Nat} {x y : Int32} (hc : c < w * h) : gT K yX8_becomes cX8_becomes 4 none 0 [.ref M, .int (nI c), .int x, .int y] z L (mdl K M sc ar σ0) none (mdl K M sc (va_up ar 5 (becF (ar 5) c x y)) σ0) := by
  obtain ⟨hw, hh, hw1, hw2, hh1, hh2⟩ := id hB
  have hn : w * h ≤ 49 := Nat.mul_le_mul hw2 hh2
  have hn1 : 16 ≤ w * h := Nat.mul_le_mul hw1 hh1
  refine g_intro [some (.ref M), some (.int (nI c)), some (.int x), some (.int y)] (fun Γ hC => ?_) (by simp [g_en, lv_args, Value.category])
  refine g_aload_n (n := 1) hC rfl dX8_becomes_0 ?_
  refine m_get (v := .ref (M + 2)) (n := 4) hC hD gf_X8_20 dX8_becomes_1 rfl ?_
  refine g_iload_n (n := 5) hC rfl dX8_becomes_4 ?_
  refine g_iload_n (n := 6) hC rfl dX8_becomes_5 ?_
  refine m_st5 (f := (ar 5)) (n := 7) hC hD c dX8_becomes_6 (rfl) (by omega) rfl ?_
  refine g_aload_n (n := 8) hC rfl dX8_becomes_7 ?_
  refine m_get (v := .ref (M + 2)) (n := 11) hC hD gf_X8_20 dX8_becomes_8 rfl ?_
  refine g_bipush (n := 13) (v := (nI 49)) hC (by decide) dX8_becomes_11 ?_
  refine g_iload_n (n := 14) hC rfl dX8_becomes_13 ?_
  refine g_iaddN (n := 15) hC dX8_becomes_14 ?_
  refine g_aload_n (n := 16) hC rfl dX8_becomes_15 ?_
  refine m_get (v := .ref (M + 2)) (n := 19) hC hD gf_X8_20 dX8_becomes_16 rfl ?_
  refine g_sipush (n := 22) (v := (nI 153)) hC (by decide) dX8_becomes_19 ?_
  refine m_ld5 (x := (ar 5 153)) (n := 23) hC hD 153 dX8_becomes_22 (rfl) (by omega) (va_up_ne _ _ (by omega)) ?_
  refine m_st5 (f := (va_up (ar 5) c x)) (n := 24) hC hD (49 + c) dX8_becomes_23 (rfl) (by omega) rfl ?_
  refine G.eqs mdl_uu ?_
  refine g_aload_n (n := 25) hC rfl dX8_becomes_24 ?_
  refine m_get (v := .ref (M + 2)) (n := 28) hC hD gf_X8_20 dX8_becomes_25 rfl ?_
  refine g_bipush (n := 30) (v := (nI 98)) hC (by decide) dX8_becomes_28 ?_
  refine g_iload_n (n := 31) hC rfl dX8_becomes_30 ?_
  refine g_iaddN (n := 32) hC dX8_becomes_31 ?_
  refine g_iload_n (n := 33) hC rfl dX8_becomes_32 ?_
  refine m_st5 (f := (va_up (va_up (ar 5) c x) (49 + c) (ar 5 153))) (n := 34) hC hD (98 + c) dX8_becomes_33 (rfl) (by omega) rfl ?_
  refine G.eqs mdl_uu ?_
  exact g_vret hC dX8_becomes_34 (⟨rfl, rfl, rfl, rfl⟩)

set_option maxRecDepth 20000 in
theorem M_mayChoose (K : GK) {M : Nat} {sc : Nat → Int32} {ar : Nat → Nat → Int32} {σ0 : GS} {L : List Nat} {z : Nat} (hD : mdom M L) {w h : Nat} (hB : mB sc w h) {x : Int32} (hc : chOK (w * h) x) : gT K yX8_mayChoose cX8_mayChoose 2 (some .boolean) 0 [.ref M, .int x] z L (mdl K M sc ar σ0) (some (.int (bI (mayF (ar 5) x)))) (mdl K M sc ar σ0) := by
  obtain ⟨hw, hh, hw1, hw2, hh1, hh2⟩ := id hB
  have hn : w * h ≤ 49 := Nat.mul_le_mul hw2 hh2
  have hn1 : 16 ≤ w * h := Nat.mul_le_mul hw1 hh1
  refine g_intro [some (.ref M), some (.int x)] (fun Γ hC => ?_) (by simp [g_en, lv_args, Value.category])
  refine g_iload_n (n := 1) hC rfl dX8_mayChoose_0 ?_
  refine g_iconst (n := 2) (v := (-1)) hC (by decide) dX8_mayChoose_1 ?_
  refine g_icmp_eq (n := 5) (tgt := 14) hC dX8_mayChoose_2 (fun h2 => ?_) (fun h2 => ?_)
  ·
    refine g_iconst (n := 15) (v := (nI 1)) hC (by decide) dX8_mayChoose_14 ?_
    refine g_goto (n := 19) hC dX8_mayChoose_15 ?_
    exact g_zret hC (by rfl) dX8_mayChoose_19 (⟨by first | exact rI (bI_t (Or.inl h2)).symm | exact rI (bI_t (Or.inr (by rw [nI_clamp (show j < 2 ^ 31 by omega)]; exact h11))).symm | exact rI (bI_f (fun q => q.elim h2 (by rw [nI_clamp (show j < 2 ^ 31 by omega)]; exact h11))).symm, rfl, rfl, rfl⟩)
  ·
    obtain ⟨j, hj, rfl⟩ := hc.resolve_left h2
    refine g_aload_n (n := 6) hC rfl dX8_mayChoose_5 ?_
    refine m_get (v := .ref (M + 2)) (n := 9) hC hD gf_X8_20 dX8_mayChoose_6 rfl ?_
    refine g_iload_n (n := 10) hC rfl dX8_mayChoose_9 ?_
    refine m_ld5 (x := ((ar 5) j)) (n := 11) hC hD j dX8_mayChoose_10 (rfl) (by omega) (rfl) ?_
    refine g_if_ne (n := 14) (tgt := 18) hC dX8_mayChoose_11 (fun h11 => ?_) (fun h11 => ?_)
    ·
      refine g_iconst (n := 19) (v := (nI 0)) hC (by decide) dX8_mayChoose_18 ?_
      exact g_zret hC (by rfl) dX8_mayChoose_19 (⟨by first | exact rI (bI_t (Or.inl h2)).symm | exact rI (bI_t (Or.inr (by rw [nI_clamp (show j < 2 ^ 31 by omega)]; exact h11))).symm | exact rI (bI_f (fun q => q.elim h2 (by rw [nI_clamp (show j < 2 ^ 31 by omega)]; exact h11))).symm, rfl, rfl, rfl⟩)
    ·
      refine g_iconst (n := 15) (v := (nI 1)) hC (by decide) dX8_mayChoose_14 ?_
      refine g_goto (n := 19) hC dX8_mayChoose_15 ?_
      exact g_zret hC (by rfl) dX8_mayChoose_19 (⟨by first | exact rI (bI_t (Or.inl h2)).symm | exact rI (bI_t (Or.inr (by rw [nI_clamp (show j < 2 ^ 31 by omega)]; exact h11))).symm | exact rI (bI_f (fun q => q.elim h2 (by rw [nI_clamp (show j < 2 ^ 31 by omega)]; exact h11))).symm, rfl, rfl, rfl⟩)

set_option maxRecDepth 20000 in
theorem M_isChoice (K : GK) {M : Nat} {sc : Nat → Int32} {ar : Nat → Nat → Int32} {σ0 : GS} {L : List Nat} {z : Nat} (hD : mdom M L) {w h : Nat} (hB : mB sc w h) {x : Int32} : gT K yX8_isChoice cX8_isChoice 2 (some .boolean) 2 [.ref M, .int x] z L (mdl K M sc ar σ0) (some (.int (bI (x = -1 ∨ (nI 0 ≤ x ∧ x ≤ nI (w * h - 1)))))) (mdl K M sc ar σ0) := by
  obtain ⟨hw, hh, hw1, hw2, hh1, hh2⟩ := id hB
  have hn : w * h ≤ 49 := Nat.mul_le_mul hw2 hh2
  have hn1 : 16 ≤ w * h := Nat.mul_le_mul hw1 hh1
  refine g_intro [some (.ref M), some (.int x)] (fun Γ hC => ?_) (by simp [g_en, lv_args, Value.category])
  refine g_iload_n (n := 1) hC rfl dX8_isChoice_0 ?_
  refine g_iconst (n := 2) (v := (-1)) hC (by decide) dX8_isChoice_1 ?_
  refine g_icmp_eq (n := 5) (tgt := 13) hC dX8_isChoice_2 (fun h2 => ?_) (fun h2 => ?_)
  ·
    refine g_iconst (n := 14) (v := (nI 1)) hC (by decide) dX8_isChoice_13 ?_
    refine g_goto (n := 18) hC dX8_isChoice_14 ?_
    exact g_zret hC (by rfl) dX8_isChoice_18 (⟨by first | exact rI (bI_t (Or.inl h2)).symm | exact rI (bI_t (Or.inr h10)).symm | exact rI (bI_f (fun q => q.elim h2 h10)).symm, rfl, rfl, rfl⟩)
  ·
    refine g_aload_n (n := 6) hC rfl dX8_isChoice_5 ?_
    refine g_iload_n (n := 7) hC rfl dX8_isChoice_6 ?_
    refine g_cV (n := 10) hC gv_X8_150 (hD 0 (by decide)) mdl_0 (M_isCell K hD hB) dX8_isChoice_7 ?_
    refine g_ifb_eq (n := 13) (tgt := 17) hC dX8_isChoice_10 (fun h10 => ?_) (fun h10 => ?_)
    ·
      refine g_iconst (n := 18) (v := (nI 0)) hC (by decide) dX8_isChoice_17 ?_
      exact g_zret hC (by rfl) dX8_isChoice_18 (⟨by first | exact rI (bI_t (Or.inl h2)).symm | exact rI (bI_t (Or.inr h10)).symm | exact rI (bI_f (fun q => q.elim h2 h10)).symm, rfl, rfl, rfl⟩)
    ·
      refine g_iconst (n := 14) (v := (nI 1)) hC (by decide) dX8_isChoice_13 ?_
      refine g_goto (n := 18) hC dX8_isChoice_14 ?_
      exact g_zret hC (by rfl) dX8_isChoice_18 (⟨by first | exact rI (bI_t (Or.inl h2)).symm | exact rI (bI_t (Or.inr h10)).symm | exact rI (bI_f (fun q => q.elim h2 h10)).symm, rfl, rfl, rfl⟩)

set_option maxRecDepth 20000 in
theorem M_isOutside (K : GK) {M : Nat} {sc : Nat → Int32} {ar : Nat → Nat → Int32} {σ0 : GS} {L : List Nat} {z : Nat} (hD : mdom M L) {w h : Nat} (hB : mB sc w h) {p c : Nat} (hp : p ≤ 1) (hc : c < w * h) : gT K yX8_isOutside cX8_isOutside 3 (some .boolean) 3 [.ref M, .int (nI p), .int (nI c)] z L (mdl K M sc ar σ0) (some (.int (bI (tb (outF (ar 5) (w * h) p) c = true)))) (mdl K M sc ar σ0) := by
  obtain ⟨hw, hh, hw1, hw2, hh1, hh2⟩ := id hB
  have hn : w * h ≤ 49 := Nat.mul_le_mul hw2 hh2
  have hn1 : 16 ≤ w * h := Nat.mul_le_mul hw1 hh1
  refine g_intro [some (.ref M), some (.int (nI p)), some (.int (nI c))] (fun Γ hC => ?_) (by simp [g_en, lv_args, Value.category])
  refine g_aload_n (n := 1) hC rfl dX8_isOutside_0 ?_
  refine g_iload_n (n := 2) hC rfl dX8_isOutside_1 ?_
  refine g_cV (n := 5) hC gv_X8_111 (hD 0 (by decide)) mdl_0 (M_outside K hD hB (p := p) (by omega)) dX8_isOutside_2 ?_
  refine g_iload_n (n := 6) hC rfl dX8_isOutside_5 ?_
  refine g_lshrN (n := 7) hC (by omega) dX8_isOutside_6 ?_
  refine g_lconst (n := 8) (v := 1) hC (by decide) dX8_isOutside_7 ?_
  refine g_land (n := 9) hC dX8_isOutside_8 ?_
  refine g_lconst (n := 10) (v := 1) hC (by decide) dX8_isOutside_9 ?_
  refine g_lcmp_ne (n := 14) (tgt := 18) hC dX8_isOutside_10 dX8_isOutside_11 (fun h10 => ?_) (fun h10 => ?_)
  ·
    refine g_iconst (n := 19) (v := (nI 0)) hC (by decide) dX8_isOutside_18 ?_
    exact g_zret hC (by rfl) dX8_isOutside_19 (⟨by first | exact rI (bI_t ((sa1_1 (by omega) _).mp h10)).symm | exact rI (bI_f (fun q => h10 ((sa1_1 (by omega) _).mpr q))).symm, rfl, rfl, rfl⟩)
  ·
    refine g_iconst (n := 15) (v := (nI 1)) hC (by decide) dX8_isOutside_14 ?_
    refine g_goto (n := 19) hC dX8_isOutside_15 ?_
    exact g_zret hC (by rfl) dX8_isOutside_19 (⟨by first | exact rI (bI_t ((sa1_1 (by omega) _).mp h10)).symm | exact rI (bI_f (fun q => h10 ((sa1_1 (by omega) _).mpr q))).symm, rfl, rfl, rfl⟩)

set_option maxRecDepth 20000 in
theorem M_isEnclosed (K : GK) {M : Nat} {sc : Nat → Int32} {ar : Nat → Nat → Int32} {σ0 : GS} {L : List Nat} {z : Nat} (hD : mdom M L) {w h : Nat} (hB : mB sc w h) {x : Int64} {c : Nat} (hx : ∀ i, tb x i = true → i < w * h) (hc : tb x c = true) : gT K yX8_isEnclosed cX8_isEnclosed 4 (some .boolean) 4 [.ref M, .long x, .int (nI c)] z L (mdl K M sc ar σ0) (some (.int (bI (rgn w h x c &&& edgF w h = 0)))) (mdl K M sc ar σ0) := by
  obtain ⟨hw, hh, hw1, hw2, hh1, hh2⟩ := id hB
  have hn : w * h ≤ 49 := Nat.mul_le_mul hw2 hh2
  have hn1 : 16 ≤ w * h := Nat.mul_le_mul hw1 hh1
  refine g_intro [some (.ref M), some (.long x), none, some (.int (nI c))] (fun Γ hC => ?_) (by simp [g_en, lv_args, Value.category])
  refine g_aload_n (n := 1) hC rfl dX8_isEnclosed_0 ?_
  refine g_lload_n (n := 2) hC rfl dX8_isEnclosed_1 ?_
  refine g_iload_n (n := 3) hC rfl dX8_isEnclosed_2 ?_
  refine g_cV (n := 6) hC gv_X8_121 (hD 0 (by decide)) mdl_0 (M_connected K hD hB (hx) (hc)) dX8_isEnclosed_3 ?_
  refine g_aload_n (n := 7) hC rfl dX8_isEnclosed_6 ?_
  refine g_cV (n := 10) hC gv_X8_114 (hD 0 (by decide)) mdl_0 (M_edge K hD hB) dX8_isEnclosed_7 ?_
  refine g_land (n := 11) hC dX8_isEnclosed_10 ?_
  refine g_lconst (n := 12) (v := 0) hC (by decide) dX8_isEnclosed_11 ?_
  refine g_lcmp_ne (n := 16) (tgt := 20) hC dX8_isEnclosed_12 dX8_isEnclosed_13 (fun h12 => ?_) (fun h12 => ?_)
  ·
    refine g_iconst (n := 21) (v := (nI 0)) hC (by decide) dX8_isEnclosed_20 ?_
    exact g_zret hC (by rfl) dX8_isEnclosed_21 (⟨by first | exact rI (bI_t h12).symm | exact rI (bI_f h12).symm, rfl, rfl, rfl⟩)
  ·
    refine g_iconst (n := 17) (v := (nI 1)) hC (by decide) dX8_isEnclosed_16 ?_
    refine g_goto (n := 21) hC dX8_isEnclosed_17 ?_
    exact g_zret hC (by rfl) dX8_isEnclosed_21 (⟨by first | exact rI (bI_t h12).symm | exact rI (bI_f h12).symm, rfl, rfl, rfl⟩)

set_option maxRecDepth 20000 in
theorem M_outcome (K : GK) {M : Nat} {sc : Nat → Int32} {ar : Nat → Nat → Int32} {σ0 : GS} {L : List Nat} {z : Nat} (hD : mdom M L) {w h : Nat} (hB : mB sc w h) {p : Nat} (hp : p ≤ 1) : gT K yX8_outcome cX8_outcome 2 (some .int) 3 [.ref M, .int (nI p)] z L (mdl K M sc ar σ0) (some (.int (scF (ar 5) (ar 4) (w * h) p - scF (ar 5) (ar 4) (w * h) (1 - p)))) (mdl K M sc ar σ0) := by
  obtain ⟨hw, hh, hw1, hw2, hh1, hh2⟩ := id hB
  have hn : w * h ≤ 49 := Nat.mul_le_mul hw2 hh2
  have hn1 : 16 ≤ w * h := Nat.mul_le_mul hw1 hh1
  refine g_intro [some (.ref M), some (.int (nI p))] (fun Γ hC => ?_) (by simp [g_en, lv_args, Value.category])
  refine g_aload_n (n := 1) hC rfl dX8_outcome_0 ?_
  refine g_iload_n (n := 2) hC rfl dX8_outcome_1 ?_
  refine g_cV (n := 5) hC gv_X8_138 (hD 0 (by decide)) mdl_0 (M_score K hD hB (p := p) (by omega)) dX8_outcome_2 ?_
  refine g_aload_n (n := 6) hC rfl dX8_outcome_5 ?_
  refine g_iconst (n := 7) (v := (nI 1)) hC (by decide) dX8_outcome_6 ?_
  refine g_iload_n (n := 8) hC rfl dX8_outcome_7 ?_
  refine g_isubN (n := 9) hC (by omega) dX8_outcome_8 ?_
  refine g_cV (n := 12) hC gv_X8_138 (hD 0 (by decide)) mdl_0 (M_score K hD hB (p := 1 - p) (by omega)) dX8_outcome_9 ?_
  refine g_isub (n := 13) hC dX8_outcome_12 ?_
  exact g_iret hC dX8_outcome_13 (⟨by first | rfl | (simp [*]; done), rfl, rfl, rfl⟩)

set_option maxRecDepth 20000 in
theorem M_lengthOf (K : GK) {M : Nat} {sc : Nat → Int32} {ar : Nat → Nat → Int32} {σ0 : GS} {L : List Nat} {z : Nat} (hD : mdom M L) {x : Int32} : gT K yX8_lengthOf cX8_lengthOf 1 (some .int) 0 [.int x] z L (mdl K M sc ar σ0) (some (.int (nI (if x = -1 then 1 else 2)))) (mdl K M sc ar σ0) := by
  refine g_intro [some (.int x)] (fun Γ hC => ?_) (by simp [g_en, lv_args, Value.category])
  refine g_iload_n (n := 1) hC rfl dX8_lengthOf_0 ?_
  refine g_iconst (n := 2) (v := (-1)) hC (by decide) dX8_lengthOf_1 ?_
  refine g_icmp_ne (n := 5) (tgt := 9) hC dX8_lengthOf_2 (fun h2 => ?_) (fun h2 => ?_)
  ·
    refine g_iconst (n := 10) (v := (nI 2)) hC (by decide) dX8_lengthOf_9 ?_
    exact g_iret hC dX8_lengthOf_10 (⟨by first | exact rI (by rw [if_pos h2]) | exact rI (by rw [if_neg h2]), rfl, rfl, rfl⟩)
  ·
    refine g_iconst (n := 6) (v := (nI 1)) hC (by decide) dX8_lengthOf_5 ?_
    refine g_goto (n := 10) hC dX8_lengthOf_6 ?_
    exact g_iret hC dX8_lengthOf_10 (⟨by first | exact rI (by rw [if_pos h2]) | exact rI (by rw [if_neg h2]), rfl, rfl, rfl⟩)
