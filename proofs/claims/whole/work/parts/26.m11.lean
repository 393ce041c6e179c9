/-- the numbers of the reference while a record is read: thrown, length of the text, the rest as it was -/
def scL (sc q : Nat → Int32) (th m : Nat) : Prop := q 0 = nI th ∧ q 29 = nI m ∧ ∀ i, i ≠ 0 → i ≠ 22 → i ≠ 23 → i ≠ 24 → i ≠ 29 → i ≠ 30 → i ≠ 31 → i ≠ 32 → q i = sc i
section SL
variable {sc q : Nat → Int32} {th m : Nat}
theorem scL_0 (h : sc 29 = nI m) : scL sc (va_up sc 0 (nI 0)) 0 m := ⟨rfl, h, fun i h0 _ _ _ _ _ _ _ => va_up_ne _ _ h0⟩
theorem scL_tx {t : Nat} {a b : Int32} (h : scL sc q th m) : scL sc (txS q t a b) th m := ⟨h.1, h.2.1, fun i h0 h1 h2 h3 h4 h5 h6 h7 => by rw [txS, va_up_ne _ _ h7, va_up_ne _ _ h6, va_up_ne _ _ h5]; exact h.2.2 i h0 h1 h2 h3 h4 h5 h6 h7⟩
theorem scL_go {x y u : Int32} (h : scL sc q th m) : scL sc (scS q x y u) th m := ⟨h.1, h.2.1, fun i h0 h1 h2 h3 h4 h5 h6 h7 => by rw [scS, va_up_ne _ _ h3, va_up_ne _ _ h2, va_up_ne _ _ h1]; exact h.2.2 i h0 h1 h2 h3 h4 h5 h6 h7⟩
theorem scL_at {v : Int32} (h : scL sc q th m) : scL sc (va_up q 30 v) th m := ⟨h.1, h.2.1, fun i h0 h1 h2 h3 h4 h5 h6 h7 => by rw [va_up_ne _ _ h5]; exact h.2.2 i h0 h1 h2 h3 h4 h5 h6 h7⟩
theorem scL_th {t2 : Nat} (h : scL sc q th m) : scL sc (va_up q 0 (nI t2)) t2 m := ⟨rfl, h.2.1, fun i h0 h1 h2 h3 h4 h5 h6 h7 => by rw [va_up_ne _ _ h0]; exact h.2.2 i h0 h1 h2 h3 h4 h5 h6 h7⟩
theorem scL_tn {m2 : Nat} (h : scL sc q th m) : scL sc (va_up q 29 (nI m2)) th m2 := ⟨h.1, rfl, fun i h0 h1 h2 h3 h4 h5 h6 h7 => by rw [va_up_ne _ _ h4]; exact h.2.2 i h0 h1 h2 h3 h4 h5 h6 h7⟩
theorem scL_o (h : scL sc q th m) (i : Nat) (hi : i ≠ 0 ∧ (i < 22 ∨ 24 < i ∧ i < 29 ∨ 32 < i)) : q i = sc i := h.2.2 i hi.1 (by omega) (by omega) (by omega) (by omega) (by omega) (by omega) (by omega)
end SL
theorem scL_mB {sc q : Nat → Int32} {th m w h : Nat} (hb : mB sc w h) (hs : scL sc q th m) : mB q w h := ⟨(scL_o hs 1 (by omega)).trans hb.1, (scL_o hs 2 (by omega)).trans hb.2.1, hb.2.2⟩
noncomputable def txI (w h : Nat) (tx : Nat → Int32) (tn : Nat) : Nat → Nat
  | 0 => 0
  | i + 1 => rdT w h tx tn (txI w h tx tn i)
noncomputable def txA (w h : Nat) (tx : Nat → Int32) (tn i : Nat) : Int32 := rdA w h tx tn (txI w h tx tn i)
noncomputable def txB (w h : Nat) (tx : Nat → Int32) (tn i : Nat) : Int32 := rdB w h tx tn (txI w h tx tn i)
def okP (w h : Nat) (tx : Nat → Int32) (tn n : Nat) : Prop := n = 0 ∨ rdO w h tx tn (txI w h tx tn (n - 1))
noncomputable def itG (w h : Nat) (rule : Int32) (tx : Nat → Int32) (tn : Nat) (ar : Nat → Nat → Int32) (pl : Nat) : Nat → Nat → Nat → Int32
  | 0 => ar
  | i + 1 => goC w h rule (itG w h rule tx tn ar pl i) (pl + i) (txA w h tx tn i) (txB w h tx tn i)
/-- the i-th round of the text can be played where those before it were -/
def okI (w h : Nat) (rule : Int32) (tx : Nat → Int32) (tn : Nat) (ar : Nat → Nat → Int32) (pl i : Nat) : Prop := ¬ ovF (itG w h rule tx tn ar pl i 5) (w * h) ∧ mayF (itG w h rule tx tn ar pl i 5) (txA w h tx tn i) ∧ mayF (itG w h rule tx tn ar pl i 5) (txB w h tx tn i)
theorem txI_le (w h : Nat) (tx : Nat → Int32) (tn : Nat) : ∀ i, txI w h tx tn i ≤ tn
  | 0 => Nat.zero_le _
  | i + 1 => rdT_le (txI_le w h tx tn i)
theorem chV_ge {w h : Nat} {tx : Nat → Int32} {tn t : Nat} : t ≤ (chV w h tx tn t).2 := by
  by_cases q : hereP tx tn t 45 45
  · rw [chV_1 q]; exact Nat.le_succ _
  · by_cases q2 : hereP tx tn t 97 (97 + w - 1)
    · by_cases q3 : hereP tx tn (t + 1) 49 (48 + h)
      · rw [chV_4 q q2 q3]; show t ≤ t + 1 + 1; omega
      · rw [chV_3 q q2 q3]; exact Nat.le_succ _
    · rw [chV_2 q q2]; exact Nat.le_refl _
theorem rdT_gt {w h : Nat} {tx : Nat → Int32} {tn t : Nat} (ho : rdO w h tx tn t) : t < rdT w h tx tn t := by
  have h1 : t ≤ (chV w h tx tn t).2 := chV_ge
  have h2 : (chV w h tx tn t).2 ≤ rdE w h tx tn t := chV_ge
  rw [rdT, if_neg ho.1, if_neg ho.2.1, iteP_t ho.2.2]
  omega
theorem txI_ge {w h : Nat} {tx : Nat → Int32} {tn n : Nat} (ho : ∀ i, i + 1 < n → rdO w h tx tn (txI w h tx tn i)) : ∀ i, i < n → i ≤ txI w h tx tn i
  | 0, _ => Nat.zero_le _
  | i + 1, hi => by
    have h1 := txI_ge ho i (by omega)
    have h2 := rdT_gt (ho i hi)
    show i + 1 ≤ rdT w h tx tn (txI w h tx tn i)
    omega
theorem goC_E {w h : Nat} {rule : Int32} {ar : Nat → Nat → Int32} {pl : Nat} {a b : Int32} {e cb e2 c2 : Nat → Int32} : arE (goC w h rule (arE ar e cb) pl a b) e2 c2 = arE (goC w h rule ar pl a b) e2 c2 := by
  funext i
  have h4 : arE ar e cb 4 = ar 4 := rfl
  have h5 : arE ar e cb 5 = ar 5 := rfl
  have h8 : arE ar e cb 8 = ar 8 := rfl
  have h9 : arE ar e cb 9 = ar 9 := rfl
  have h10 : arE ar e cb 10 = ar 10 := rfl
  simp only [goC, h4, h5, h8, h9, h10]
  by_cases e1 : i = 5 <;> by_cases e3 : i = 9 <;> by_cases e2 : i = 8 <;> by_cases e4 : i = 10 <;> by_cases e5 : i = 20 <;> by_cases e6 : i = 21 <;> simp [arE, va_up, e1, e2, e3, e4, e5, e6] <;> omega
theorem itG_4 {w h : Nat} {rule : Int32} {tx : Nat → Int32} {tn : Nat} {ar : Nat → Nat → Int32} {pl : Nat} : ∀ i, itG w h rule tx tn ar pl i 4 = ar 4
  | 0 => rfl
  | i + 1 => itG_4 i
theorem it_ok {w h : Nat} {rule : Int32} {tx : Nat → Int32} {tn : Nat} {ar : Nat → Nat → Int32} {pl : Nat} (hw1 : 1 ≤ w) (hw : w ≤ 7) (hh : h ≤ 7) (hpl : ar 5 153 = nI pl) (hwv : wvA (w * h) (ar 5)) (h60 : pl ≤ 60) : ∀ i, (∀ j, j < i → okI w h rule tx tn ar pl j) → (∀ j, j < i → rdO w h tx tn (txI w h tx tn j)) → itG w h rule tx tn ar pl i 5 153 = nI (pl + i) ∧ wvA (w * h) (itG w h rule tx tn ar pl i 5) ∧ pl + i ≤ 60
  | 0, _, _ => ⟨hpl, hwv, h60⟩
  | i + 1, ho, hr => by
    have hn : w * h ≤ 49 := Nat.mul_le_mul hw hh
    obtain ⟨h1, h2, h3⟩ := it_ok hw1 hw hh hpl hwv h60 i (fun j hj => ho j (by omega)) (fun j hj => hr j (by omega))
    have h4 : pl + i < 60 := by
      rcases Nat.lt_or_ge (pl + i) 60 with q | q
      · exact q
      · exact absurd (Or.inr (Or.inl (by rw [h1, show pl + i = 60 by omega]))) (ho i (by omega)).1
    have ha : chOK (w * h) (txA w h tx tn i) := (chV_ok hw1 hw hh).resolve_right (hr i (by omega)).1
    have hb : chOK (w * h) (txB w h tx tn i) := (chV_ok hw1 hw hh).resolve_right (hr i (by omega)).2.1
    exact ⟨plV_153 hn ha hb h1, plV_wv hn ha hb h1 h4 h2, by omega⟩

theorem st_nx2 {p : Nat → Prop} {n : Nat} (h : ∀ i, i < n → p i) (h2 : p n) : ∀ i, i < n + 1 → p i := fun i hi => by
  by_cases e : i = n
  · rw [e]; exact h2
  · exact h i (by omega)
theorem st_nx4 {p : Nat → Prop} {n : Nat} (h : ∀ i, i < n → p i) (h2 : p n) : ∀ i, i < n + 1 → p i := st_nx2 h h2
theorem st_nx3 {w h : Nat} {tx : Nat → Int32} {tn n : Nat} (hr : ∀ i, i + 1 < n → rdO w h tx tn (txI w h tx tn i)) (ho : okP w h tx tn n) : ∀ i, i + 1 < n + 1 → rdO w h tx tn (txI w h tx tn i) := fun i hi => by
  rcases Nat.lt_or_ge (i + 1) n with q | q
  · exact hr i q
  · obtain rfl : i = n - 1 := by omega
    exact ho.resolve_left (by omega)
theorem st_all2 {w h : Nat} {tx : Nat → Int32} {tn n j : Nat} (hr : ∀ i, i + 1 < n → rdO w h tx tn (txI w h tx tn i)) (hj : j < n) (ho : okP w h tx tn n) : rdO w h tx tn (txI w h tx tn j) := st_nx3 hr ho j (by omega)
theorem itG_o {w h : Nat} {rule : Int32} {tx : Nat → Int32} {tn : Nat} {ar : Nat → Nat → Int32} {pl k : Nat} (h5 : k ≠ 5) (h8 : k ≠ 8) (h9 : k ≠ 9) (h10 : k ≠ 10) : ∀ i, itG w h rule tx tn ar pl i k = ar k
  | 0 => rfl
  | i + 1 => by
    rw [itG, goC, va_up_ne _ _ h10, va_up_ne _ _ h9, va_up_ne _ _ h5, va_up_ne _ _ h8]
    exact itG_o h5 h8 h9 h10 i
theorem arE_id {ar : Nat → Nat → Int32} : arE ar (ar 20) (ar 21) = ar := by rw [arE, va_up_same, va_up_same]
/-- what reading a record leaves -/
def rrP (K : GK) (M : Nat) (sc : Nat → Int32) (ar : Nat → Nat → Int32) (σ0 : GS) (w h tn pl : Nat) (r : Option Value) (σ2 : GS) : Prop := ∃ (n : Nat) (sc1 : Nat → Int32) (e cb : Nat → Int32), (∀ i, i < n → txI w h (ar 28) tn i < tn) ∧ (∀ i, i + 1 < n → rdO w h (ar 28) tn (txI w h (ar 28) tn i)) ∧ (tn ≤ txI w h (ar 28) tn n ∨ ¬ okP w h (ar 28) tn n) ∧ ((¬ okP w h (ar 28) tn n ∧ r = some (.int (-100 - nI (txI w h (ar 28) tn n))) ∧ scL sc sc1 0 0 ∧ σ2 = mdl K M sc1 (arE ar e cb) σ0) ∨ (okP w h (ar 28) tn n ∧ (∀ j, j < n → okI w h (sc 3) (ar 28) tn ar pl j) ∧ r = some (.int (nI n)) ∧ scL sc sc1 0 0 ∧ σ2 = mdl K M sc1 (arE (itG w h (sc 3) (ar 28) tn ar pl n) e cb) σ0) ∨ (okP w h (ar 28) tn n ∧ ∃ i, i < n ∧ (∀ j, j < i → okI w h (sc 3) (ar 28) tn ar pl j) ∧ r = some (.int (nI 0)) ∧ scL sc sc1 1 0 ∧ ((ovF (itG w h (sc 3) (ar 28) tn ar pl i 5) (w * h) ∧ σ2 = mdl K M sc1 (arE (itG w h (sc 3) (ar 28) tn ar pl i) e cb) σ0) ∨ (¬ ovF (itG w h (sc 3) (ar 28) tn ar pl i 5) (w * h) ∧ ∃ who c, ((who = 0 ∧ ¬ mayF (itG w h (sc 3) (ar 28) tn ar pl i 5) (txA w h (ar 28) tn i) ∧ txA w h (ar 28) tn i = nI c) ∨ (who = 1 ∧ mayF (itG w h (sc 3) (ar 28) tn ar pl i 5) (txA w h (ar 28) tn i) ∧ ¬ mayF (itG w h (sc 3) (ar 28) tn ar pl i 5) (txB w h (ar 28) tn i) ∧ txB w h (ar 28) tn i = nI c)) ∧ c < w * h ∧ rpP K M sc1 (arE (itG w h (sc 3) (ar 28) tn ar pl i) e cb) σ0 who c σ2))))

theorem up_27 {q : Nat → Int32} {x y v : Int32} : va_up (va_up (va_up q 27 v) 0 x) 29 y = va_up (va_up (va_up q 0 x) 29 y) 27 v := by
  funext i
  by_cases e1 : i = 0 <;> by_cases e2 : i = 27 <;> by_cases e3 : i = 29 <;> simp [va_up, e1, e2, e3] <;> omega

set_option maxRecDepth 20000 in
set_option maxHeartbeats 4000000 in
theorem M_readRecord (K : GK) {M : Nat} {sc : Nat → Int32} {ar : Nat → Nat → Int32} {σ0 : GS} {L : List Nat} {z : Nat} (hD : mdom M L) {w h : Nat} (hB : mB sc w h) {tn pl : Nat} (htn : sc 29 = nI tn) (htn80 : tn ≤ 80) (hpl : ar 5 153 = nI pl) (hpl60 : pl ≤ 60) (hwv : wvA (w * h) (ar 5)) : gM K yX8_readRecord cX8_readRecord 5 (some .int) 8 0 0 [.ref M] z L (mdl K M sc ar σ0) (fun r z1 L1 σ2 => z1 = z ∧ L1 = L ∧ rrP K M sc ar σ0 w h tn pl r σ2) := by
  obtain ⟨hw, hh, hw1, hw2, hh1, hh2⟩ := id hB
  have hn : w * h ≤ 49 := Nat.mul_le_mul hw2 hh2
  have hn1 : 16 ≤ w * h := Nat.mul_le_mul hw1 hh1
  refine g_intro [some (.ref M), none, none, none, none] (fun Γ hC => ?_) (by simp [g_en, lv_args, Value.category])
  refine g_aload_n (n := 1) hC rfl dX8_readRecord_0 ?_
  refine g_iconst (n := 2) (v := (nI 0)) hC (by decide) dX8_readRecord_1 ?_
  refine m_put0 (n := 5) hC hD gp_X8_73 dX8_readRecord_2 ?_
  refine g_aload_n (n := 6) hC rfl dX8_readRecord_5 ?_
  refine g_iconst (n := 7) (v := (nI 0)) hC (by decide) dX8_readRecord_6 ?_
  refine m_put30 (n := 10) hC hD gp_X8_223 dX8_readRecord_7 ?_
  refine g_iconst (n := 11) (v := (nI 1)) hC (by decide) dX8_readRecord_10 ?_
  refine g_istore_n (n := 12) (ll1 := [some (.ref M), some (.int (nI 1)), none, none, none]) hC dX8_readRecord_11 rfl ?_
  refine g_iconst (n := 13) (v := (nI 0)) hC (by decide) dX8_readRecord_12 ?_
  refine g_istore_n (n := 14) (ll1 := [some (.ref M), some (.int (nI 1)), some (.int (nI 0)), none, none]) hC dX8_readRecord_13 rfl ?_
  have lp14 : ∀ (n9 : Nat) (n : Nat) (sc1 : Nat → Int32) (hsq : scL sc sc1 0 tn) (hat1 : sc1 30 = nI (txI w h (ar 28) tn n)) (hlt : ∀ i, i < n → (txI w h (ar 28) tn i) < tn) (hrd : ∀ i, i + 1 < n → rdO w h (ar 28) tn (txI w h (ar 28) tn i)) (y1 : Int32) (ey1 : y1 = (bI (okP w h (ar 28) tn n))) (y2 : Int32) (ey2 : y2 = (nI n)) (hm9 : 83 - n < n9), G K Γ (z, 0, 0, L) (mdl K M sc1 ar σ0) 14 [some (.ref M), some (.int y1), some (.int y2), none, none] [] := by
    intro n9
    induction n9 with
    | zero =>
      intro n sc1 hsq hat1 hlt hrd y1 ey1 y2 ey2 hm9
      exact absurd hm9 (Nat.not_lt_zero _)
    | succ n9 ih14 =>
      intro n sc1 hsq hat1 hlt hrd y1 ey1 y2 ey2 hm9
      subst ey1
      subst ey2
      have hB1 := scL_mB hB hsq
      have hnn : n ≤ 81 := by
        rcases n with _ | m
        · omega
        · have h1 := txI_ge hrd m (by omega)
          have h2 := txI_le w h (ar 28) tn m
          omega
      have htl := txI_le w h (ar 28) tn n
      refine g_aload_n (n := 15) hC rfl dX8_readRecord_14 ?_
      have lp40 : ∀ (hex : tn ≤ (txI w h (ar 28) tn n) ∨ ¬ okP w h (ar 28) tn n) (y1 : Int32) (ey1 : y1 = (bI (okP w h (ar 28) tn n))), G K Γ (z, 0, 0, L) (mdl K M sc1 ar σ0) 40 [some (.ref M), some (.int y1), some (.int (nI n)), none, none] [] := by
        intro hex y1 ey1
        subst ey1
        have hall : ∀ j, j < n → okP w h (ar 28) tn n → rdO w h (ar 28) tn (txI w h (ar 28) tn j) := fun j hj q => st_all2 hrd hj q
        refine g_aload_n (n := 41) hC rfl dX8_readRecord_40 ?_
        refine m_get (v := .int (nI (txI w h (ar 28) tn n))) (n := 44) hC hD gf_X8_223 dX8_readRecord_41 (congrArg (fun x => some (Value.int x)) (hat1)) ?_
        refine g_istore_n (n := 45) (ll1 := [some (.ref M), some (.int (bI (okP w h (ar 28) tn n))), some (.int (nI n)), some (.int (nI (txI w h (ar 28) tn n))), none]) hC dX8_readRecord_44 rfl ?_
        refine g_aload_n (n := 46) hC rfl dX8_readRecord_45 ?_
        refine g_iconst (n := 47) (v := (nI 0)) hC (by decide) dX8_readRecord_46 ?_
        refine m_put30 (n := 50) hC hD gp_X8_223 dX8_readRecord_47 ?_
        refine g_iconst (n := 51) (v := (nI 0)) hC (by decide) dX8_readRecord_50 ?_
        refine g_istore (n := 53) (ll1 := [some (.ref M), some (.int (bI (okP w h (ar 28) tn n))), some (.int (nI n)), some (.int (nI (txI w h (ar 28) tn n))), some (.int (nI 0))]) hC dX8_readRecord_51 rfl ?_
        have lp53 : ∀ (n9 : Nat) (i : Nat) (sc1 : Nat → Int32) (e : Nat → Int32) (cb : Nat → Int32) (hi : i ≤ n) (hsq : scL sc sc1 0 tn) (hat1 : sc1 30 = nI (txI w h (ar 28) tn i)) (hi0 : i = 0 ∨ okP w h (ar 28) tn n) (hok2 : ∀ j, j < i → okI w h (sc 3) (ar 28) tn ar pl j) (y1 : Int32) (ey1 : y1 = (bI (okP w h (ar 28) tn n))) (y4 : Int32) (ey4 : y4 = (nI i)) (hm9 : n - i < n9), G K Γ (z, 0, 0, L) (mdl K M sc1 (arE (itG w h (sc 3) (ar 28) tn ar pl i) e cb) σ0) 53 [some (.ref M), some (.int y1), some (.int (nI n)), some (.int (nI (txI w h (ar 28) tn n))), some (.int y4)] [] := by
          intro n9
          induction n9 with
          | zero =>
            intro i sc1 e cb hi hsq hat1 hi0 hok2 y1 ey1 y4 ey4 hm9
            exact absurd hm9 (Nat.not_lt_zero _)
          | succ n9 ih53 =>
            intro i sc1 e cb hi hsq hat1 hi0 hok2 y1 ey1 y4 ey4 hm9
            subst ey1
            subst ey4
            have hB1 := scL_mB hB hsq
            have htl := txI_le w h (ar 28) tn i
            refine g_iload (n := 55) hC rfl dX8_readRecord_53 ?_
            refine g_iload_n (n := 56) hC rfl dX8_readRecord_55 ?_
            refine g_icmp_geN (n := 59) (tgt := 108) hC (by omega) (by omega) dX8_readRecord_56 (fun h56 => ?_) (fun h56 => ?_)
            ·
              refine g_aload_n (n := 109) hC rfl dX8_readRecord_108 ?_
              refine g_iconst (n := 110) (v := (nI 0)) hC (by decide) dX8_readRecord_109 ?_
              refine m_put29 (n := 113) hC hD gp_X8_220 dX8_readRecord_110 ?_
              refine g_iload_n (n := 114) hC rfl dX8_readRecord_113 ?_
              refine g_ifb_ne (n := 117) (tgt := 124) hC dX8_readRecord_114 (fun h114 => ?_) (fun h114 => ?_)
              ·
                refine g_aload_n (n := 125) hC rfl dX8_readRecord_124 ?_
                refine m_get (v := .int (nI 0)) (n := 128) hC hD gf_X8_73 dX8_readRecord_125 (congrArg (fun x => some (Value.int x)) (hsq.1)) ?_
                refine g_iconst (n := 129) (v := (nI 1)) hC (by decide) dX8_readRecord_128 ?_
                refine g_icmp_neN (n := 132) (tgt := 136) hC (by decide) (by decide) dX8_readRecord_129 (fun _ => ?_) (fun h9 => absurd h9 (by decide))
                refine g_iload_n (n := 137) hC rfl dX8_readRecord_136 ?_
                exact g_iret hC dX8_readRecord_137 (⟨rfl, rfl, n, va_up sc1 29 (nI 0), e, cb, hlt, hrd, hex, Or.inr (Or.inl ⟨h114, fun j hj => hok2 j (by omega), rfl, scL_tn hsq, by rw [show i = n by omega]⟩)⟩)
              ·
                refine g_bipush (n := 119) (v := (-100)) hC (by decide) dX8_readRecord_117 ?_
                refine g_iload_n (n := 120) hC rfl dX8_readRecord_119 ?_
                refine g_isub (n := 121) hC dX8_readRecord_120 ?_
                refine g_goto (n := 137) hC dX8_readRecord_121 ?_
                exact g_iret hC dX8_readRecord_137 (⟨rfl, rfl, n, va_up sc1 29 (nI 0), e, cb, hlt, hrd, hex, Or.inl ⟨h114, rfl, scL_tn hsq, by rw [show i = 0 from hi0.resolve_right h114]; rfl⟩⟩)
            ·
              refine g_iload_n (n := 60) hC rfl dX8_readRecord_59 ?_
              refine g_ifb_eq (n := 63) (tgt := 108) hC dX8_readRecord_60 (fun h60 => ?_) (fun h60 => ?_)
              ·
                refine g_aload_n (n := 109) hC rfl dX8_readRecord_108 ?_
                refine g_iconst (n := 110) (v := (nI 0)) hC (by decide) dX8_readRecord_109 ?_
                refine m_put29 (n := 113) hC hD gp_X8_220 dX8_readRecord_110 ?_
                refine g_iload_n (n := 114) hC rfl dX8_readRecord_113 ?_
                refine g_ifb_ne (n := 117) (tgt := 124) hC dX8_readRecord_114 (fun h114 => ?_) (fun h114 => ?_)
                ·
                  exact absurd h114 h60
                ·
                  refine g_bipush (n := 119) (v := (-100)) hC (by decide) dX8_readRecord_117 ?_
                  refine g_iload_n (n := 120) hC rfl dX8_readRecord_119 ?_
                  refine g_isub (n := 121) hC dX8_readRecord_120 ?_
                  refine g_goto (n := 137) hC dX8_readRecord_121 ?_
                  exact g_iret hC dX8_readRecord_137 (⟨rfl, rfl, n, va_up sc1 29 (nI 0), e, cb, hlt, hrd, hex, Or.inl ⟨h114, rfl, scL_tn hsq, by rw [show i = 0 from hi0.resolve_right h114]; rfl⟩⟩)
              ·
                have h60x := h60
                refine g_aload_n (n := 64) hC rfl dX8_readRecord_63 ?_
                refine m_get (v := .int (nI 0)) (n := 67) hC hD gf_X8_73 dX8_readRecord_64 (congrArg (fun x => some (Value.int x)) (hsq.1)) ?_
                refine g_if_ne (n := 70) (tgt := 108) hC dX8_readRecord_67 (fun h9 => absurd h9 (by decide)) (fun _ => ?_)
                refine g_aload_n (n := 71) hC rfl dX8_readRecord_70 ?_
                have h28 : (arE (itG w h (sc 3) (ar 28) tn ar pl i) e cb) 28 = ar 28 := itG_o (by decide) (by decide) (by decide) (by decide) i
                have hir := M_isRound K hD hB1 (z := z) (σ0 := σ0) (ar := arE (itG w h (sc 3) (ar 28) tn ar pl i) e cb) (tn := tn) (t := (txI w h (ar 28) tn i)) (sc := sc1) hsq.2.1 htn80 hat1 (txI_le _ _ _ _ _)
                rw [h28] at hir
                have ho : rdO w h (ar 28) tn (txI w h (ar 28) tn i) := hall i (by omega) h60
                have hs2 := scL_tx (t := rdT w h (ar 28) tn (txI w h (ar 28) tn i)) (a := rdA w h (ar 28) tn (txI w h (ar 28) tn i)) (b := rdZ w h sc1 (ar 28) tn (txI w h (ar 28) tn i)) hsq
                have hB2 := scL_mB hB hs2
                obtain ⟨hip, hiw, hi60⟩ := it_ok (by omega) hw2 hh2 hpl hwv hpl60 i hok2 (fun j hj => hall j (by omega) h60)
                refine g_cV (n := 74) hC gv_X8_239 (hD 0 (by decide)) mdl_0 (hir) dX8_readRecord_71 ?_
                refine G.eqs (show _ = mdl K M (txS sc1 (rdT w h (ar 28) tn (txI w h (ar 28) tn i)) (rdA w h (ar 28) tn (txI w h (ar 28) tn i)) (rdZ w h sc1 (ar 28) tn (txI w h (ar 28) tn i))) (arE (itG w h (sc 3) (ar 28) tn ar pl i) e cb) σ0 from rfl) ?_
                refine g_istore_n (n := 75) (ll1 := [some (.ref M), some (.int (bI (rdO w h (ar 28) tn (txI w h (ar 28) tn i)))), some (.int (nI n)), some (.int (nI (txI w h (ar 28) tn n))), some (.int (nI i))]) hC dX8_readRecord_74 rfl ?_
                refine g_aload_n (n := 76) hC rfl dX8_readRecord_75 ?_
                refine g_cV (n := 79) hC gv_X8_170 (hD 0 (by decide)) mdl_0 (M_over K hD hB2) dX8_readRecord_76 ?_
                refine g_ifb_ne (n := 82) (tgt := 97) hC dX8_readRecord_79 (fun h79 => ?_) (fun h79 => ?_)
                ·
                  refine g_aload_n (n := 98) hC rfl dX8_readRecord_97 ?_
                  refine g_iconst (n := 99) (v := (nI 1)) hC (by decide) dX8_readRecord_98 ?_
                  refine m_put0 (n := 102) hC hD gp_X8_73 dX8_readRecord_99 ?_
                  refine g_iinc (n := 105) (ll1 := [some (.ref M), some (.int (bI (rdO w h (ar 28) tn (txI w h (ar 28) tn i)))), some (.int (nI n)), some (.int (nI (txI w h (ar 28) tn n))), some (.int (nI (i + 1)))]) hC dX8_readRecord_102 rfl (nI_inc _) rfl ?_
                  refine g_goto (n := 53) hC dX8_readRecord_105 ?_
                  refine g_iload (n := 55) hC rfl dX8_readRecord_53 ?_
                  refine g_iload_n (n := 56) hC rfl dX8_readRecord_55 ?_
                  refine g_icmp_geN (n := 59) (tgt := 108) hC (by omega) (by omega) dX8_readRecord_56 (fun h56 => ?_) (fun h56 => ?_)
                  ·
                    refine g_aload_n (n := 109) hC rfl dX8_readRecord_108 ?_
                    refine g_iconst (n := 110) (v := (nI 0)) hC (by decide) dX8_readRecord_109 ?_
                    refine m_put29 (n := 113) hC hD gp_X8_220 dX8_readRecord_110 ?_
                    refine g_iload_n (n := 114) hC rfl dX8_readRecord_113 ?_
                    refine g_ifb_ne (n := 117) (tgt := 124) hC dX8_readRecord_114 (fun h114 => ?_) (fun h114 => ?_)
                    ·
                      refine g_aload_n (n := 125) hC rfl dX8_readRecord_124 ?_
                      refine m_get (v := .int (nI 1)) (n := 128) hC hD gf_X8_73 dX8_readRecord_125 rfl ?_
                      refine g_iconst (n := 129) (v := (nI 1)) hC (by decide) dX8_readRecord_128 ?_
                      refine g_icmp_neN (n := 132) (tgt := 136) hC (by decide) (by decide) dX8_readRecord_129 (fun h9 => absurd h9 (by decide)) (fun _ => ?_)
                      refine g_iconst (n := 133) (v := (nI 0)) hC (by decide) dX8_readRecord_132 ?_
                      refine g_goto (n := 137) hC dX8_readRecord_133 ?_
                      exact g_iret hC dX8_readRecord_137 (⟨rfl, rfl, n, va_up (va_up (txS sc1 (rdT w h (ar 28) tn (txI w h (ar 28) tn i)) (rdA w h (ar 28) tn (txI w h (ar 28) tn i)) (rdZ w h sc1 (ar 28) tn (txI w h (ar 28) tn i))) 0 (nI 1)) 29 (nI 0), e, cb, hlt, hrd, hex, Or.inr (Or.inr ⟨h60x, i, by omega, hok2, rfl, scL_tn (scL_th hs2), Or.inl ⟨h79, rfl⟩⟩)⟩)
                    ·
                      exact absurd ho h114
                  ·
                    refine g_iload_n (n := 60) hC rfl dX8_readRecord_59 ?_
                    refine g_ifb_eq (n := 63) (tgt := 108) hC dX8_readRecord_60 (fun h60 => ?_) (fun h60 => ?_)
                    ·
                      exact absurd ho h60
                    ·
                      refine g_aload_n (n := 64) hC rfl dX8_readRecord_63 ?_
                      refine m_get (v := .int (nI 1)) (n := 67) hC hD gf_X8_73 dX8_readRecord_64 rfl ?_
                      refine g_if_ne (n := 70) (tgt := 108) hC dX8_readRecord_67 (fun _ => ?_) (fun h9 => absurd h9 (by decide))
                      refine g_aload_n (n := 109) hC rfl dX8_readRecord_108 ?_
                      refine g_iconst (n := 110) (v := (nI 0)) hC (by decide) dX8_readRecord_109 ?_
                      refine m_put29 (n := 113) hC hD gp_X8_220 dX8_readRecord_110 ?_
                      refine g_iload_n (n := 114) hC rfl dX8_readRecord_113 ?_
                      refine g_ifb_ne (n := 117) (tgt := 124) hC dX8_readRecord_114 (fun h114 => ?_) (fun h114 => ?_)
                      ·
                        refine g_aload_n (n := 125) hC rfl dX8_readRecord_124 ?_
                        refine m_get (v := .int (nI 1)) (n := 128) hC hD gf_X8_73 dX8_readRecord_125 rfl ?_
                        refine g_iconst (n := 129) (v := (nI 1)) hC (by decide) dX8_readRecord_128 ?_
                        refine g_icmp_neN (n := 132) (tgt := 136) hC (by decide) (by decide) dX8_readRecord_129 (fun h9 => absurd h9 (by decide)) (fun _ => ?_)
                        refine g_iconst (n := 133) (v := (nI 0)) hC (by decide) dX8_readRecord_132 ?_
                        refine g_goto (n := 137) hC dX8_readRecord_133 ?_
                        exact g_iret hC dX8_readRecord_137 (⟨rfl, rfl, n, va_up (va_up (txS sc1 (rdT w h (ar 28) tn (txI w h (ar 28) tn i)) (rdA w h (ar 28) tn (txI w h (ar 28) tn i)) (rdZ w h sc1 (ar 28) tn (txI w h (ar 28) tn i))) 0 (nI 1)) 29 (nI 0), e, cb, hlt, hrd, hex, Or.inr (Or.inr ⟨h60x, i, by omega, hok2, rfl, scL_tn (scL_th hs2), Or.inl ⟨h79, rfl⟩⟩)⟩)
                      ·
                        exact absurd ho h114
                ·
                  refine g_aload_n (n := 83) hC rfl dX8_readRecord_82 ?_
                  refine g_aload_n (n := 84) hC rfl dX8_readRecord_83 ?_
                  refine m_get (v := .int (txA w h (ar 28) tn i)) (n := 87) hC hD gf_X8_233 dX8_readRecord_84 rfl ?_
                  refine g_aload_n (n := 88) hC rfl dX8_readRecord_87 ?_
                  refine m_get (v := .int (txB w h (ar 28) tn i)) (n := 91) hC hD gf_X8_236 dX8_readRecord_88 (congrArg (fun x => some (Value.int x)) ((if_neg ho.1))) ?_
                  have hp6 : pl + i < 60 := by
                    rcases Nat.lt_or_ge (pl + i) 60 with q | q
                    · exact q
                    · exact absurd (Or.inr (Or.inl (hip.trans (congrArg nI (by omega))))) h79
                  have hca : chOK (w * h) (txA w h (ar 28) tn i) := (chV_ok (by omega) hw2 hh2).resolve_right ho.1
                  have hcb : chOK (w * h) (txB w h (ar 28) tn i) := (chV_ok (by omega) hw2 hh2).resolve_right ho.2.1
                  refine g_callV hC gv_X8_174 (M_goes K hD hB2 (ar := arE (itG w h (sc 3) (ar 28) tn ar pl i) e cb) (pl := pl + i) hip hp6 hiw hca hcb) (hD 0 (by decide)) mdl_0 (by rfl) (by decide) (by decide) (by rfl) (by rfl) (Nat.le_of_ble_eq_true rfl) (by exact ⟨Nat.le_refl _, Nat.le_refl _⟩) dX8_readRecord_91 (fun rv9 z9 L9 σ9 hp9 => ?_)
                  obtain ⟨hz9, hL9, hp9⟩ := hp9
                  rw [hz9, hL9]
                  rcases hp9 with ⟨q1, rfl, a0, q2, q3, hrp⟩ | ⟨q1, q4, rfl, b0, q2, q3, hrp⟩ | ⟨q1, rfl, W, e2, cb2, f2, hR, hcb2, hs9⟩
                  · rcases hrp with ⟨g1, hs9⟩ | ⟨sn, wn, g2, g3, g4, g5, hs9⟩
                    · rw [hs9]
                      show G K Γ (z, 0, 0, L) (mdl K M (va_up (txS sc1 (rdT w h (ar 28) tn (txI w h (ar 28) tn i)) (rdA w h (ar 28) tn (txI w h (ar 28) tn i)) (rdZ w h sc1 (ar 28) tn (txI w h (ar 28) tn i))) 27 (nI 3)) (va_up (va_up (arE (itG w h (sc 3) (ar 28) tn ar pl i) e cb) 25 (rp3C ((arE (itG w h (sc 3) (ar 28) tn ar pl i) e cb) 25) ((arE (itG w h (sc 3) (ar 28) tn ar pl i) e cb) 5) 0 a0)) 26 (rp3D ((arE (itG w h (sc 3) (ar 28) tn ar pl i) e cb) 26) ((arE (itG w h (sc 3) (ar 28) tn ar pl i) e cb) 5) a0)) σ0) 94 [some (.ref M), some (.int (bI (rdO w h (ar 28) tn (txI w h (ar 28) tn i)))), some (.int (nI n)), some (.int (nI (txI w h (ar 28) tn n))), some (.int (nI i))] [.int (nI 0)]
                      refine g_if_ne (n := 97) (tgt := 102) hC dX8_readRecord_94 (fun h9 => absurd h9 (by decide)) (fun _ => ?_)
                      refine g_aload_n (n := 98) hC rfl dX8_readRecord_97 ?_
                      refine g_iconst (n := 99) (v := (nI 1)) hC (by decide) dX8_readRecord_98 ?_
                      refine m_put0 (n := 102) hC hD gp_X8_73 dX8_readRecord_99 ?_
                      refine g_iinc (n := 105) (ll1 := [some (.ref M), some (.int (bI (rdO w h (ar 28) tn (txI w h (ar 28) tn i)))), some (.int (nI n)), some (.int (nI (txI w h (ar 28) tn n))), some (.int (nI (i + 1)))]) hC dX8_readRecord_102 rfl (nI_inc _) rfl ?_
                      refine g_goto (n := 53) hC dX8_readRecord_105 ?_
                      refine g_iload (n := 55) hC rfl dX8_readRecord_53 ?_
                      refine g_iload_n (n := 56) hC rfl dX8_readRecord_55 ?_
                      refine g_icmp_geN (n := 59) (tgt := 108) hC (by omega) (by omega) dX8_readRecord_56 (fun h56 => ?_) (fun h56 => ?_)
                      ·
                        refine g_aload_n (n := 109) hC rfl dX8_readRecord_108 ?_
                        refine g_iconst (n := 110) (v := (nI 0)) hC (by decide) dX8_readRecord_109 ?_
                        refine m_put29 (n := 113) hC hD gp_X8_220 dX8_readRecord_110 ?_
                        refine g_iload_n (n := 114) hC rfl dX8_readRecord_113 ?_
                        refine g_ifb_ne (n := 117) (tgt := 124) hC dX8_readRecord_114 (fun h114 => ?_) (fun h114 => ?_)
                        ·
                          refine g_aload_n (n := 125) hC rfl dX8_readRecord_124 ?_
                          refine m_get (v := .int (nI 1)) (n := 128) hC hD gf_X8_73 dX8_readRecord_125 rfl ?_
                          refine g_iconst (n := 129) (v := (nI 1)) hC (by decide) dX8_readRecord_128 ?_
                          refine g_icmp_neN (n := 132) (tgt := 136) hC (by decide) (by decide) dX8_readRecord_129 (fun h9 => absurd h9 (by decide)) (fun _ => ?_)
                          refine g_iconst (n := 133) (v := (nI 0)) hC (by decide) dX8_readRecord_132 ?_
                          refine g_goto (n := 137) hC dX8_readRecord_133 ?_
                          exact g_iret hC dX8_readRecord_137 (⟨rfl, rfl, n, va_up (va_up (txS sc1 (rdT w h (ar 28) tn (txI w h (ar 28) tn i)) (rdA w h (ar 28) tn (txI w h (ar 28) tn i)) (rdZ w h sc1 (ar 28) tn (txI w h (ar 28) tn i))) 0 (nI 1)) 29 (nI 0), e, cb, hlt, hrd, hex, Or.inr (Or.inr ⟨h60x, i, by omega, hok2, rfl, scL_tn (scL_th hs2), Or.inr ⟨h79, 0, a0, Or.inl ⟨rfl, q1, q3⟩, q2, Or.inl ⟨g1, (congrArg (fun q => mdl K M q _ σ0) (by exact up_27))⟩⟩⟩)⟩)
                        ·
                          exact absurd ho h114
                      ·
                        refine g_iload_n (n := 60) hC rfl dX8_readRecord_59 ?_
                        refine g_ifb_eq (n := 63) (tgt := 108) hC dX8_readRecord_60 (fun h60 => ?_) (fun h60 => ?_)
                        ·
                          exact absurd ho h60
                        ·
                          refine g_aload_n (n := 64) hC rfl dX8_readRecord_63 ?_
                          refine m_get (v := .int (nI 1)) (n := 67) hC hD gf_X8_73 dX8_readRecord_64 rfl ?_
                          refine g_if_ne (n := 70) (tgt := 108) hC dX8_readRecord_67 (fun _ => ?_) (fun h9 => absurd h9 (by decide))
                          refine g_aload_n (n := 109) hC rfl dX8_readRecord_108 ?_
                          refine g_iconst (n := 110) (v := (nI 0)) hC (by decide) dX8_readRecord_109 ?_
                          refine m_put29 (n := 113) hC hD gp_X8_220 dX8_readRecord_110 ?_
                          refine g_iload_n (n := 114) hC rfl dX8_readRecord_113 ?_
                          refine g_ifb_ne (n := 117) (tgt := 124) hC dX8_readRecord_114 (fun h114 => ?_) (fun h114 => ?_)
                          ·
                            refine g_aload_n (n := 125) hC rfl dX8_readRecord_124 ?_
                            refine m_get (v := .int (nI 1)) (n := 128) hC hD gf_X8_73 dX8_readRecord_125 rfl ?_
                            refine g_iconst (n := 129) (v := (nI 1)) hC (by decide) dX8_readRecord_128 ?_
                            refine g_icmp_neN (n := 132) (tgt := 136) hC (by decide) (by decide) dX8_readRecord_129 (fun h9 => absurd h9 (by decide)) (fun _ => ?_)
                            refine g_iconst (n := 133) (v := (nI 0)) hC (by decide) dX8_readRecord_132 ?_
                            refine g_goto (n := 137) hC dX8_readRecord_133 ?_
                            exact g_iret hC dX8_readRecord_137 (⟨rfl, rfl, n, va_up (va_up (txS sc1 (rdT w h (ar 28) tn (txI w h (ar 28) tn i)) (rdA w h (ar 28) tn (txI w h (ar 28) tn i)) (rdZ w h sc1 (ar 28) tn (txI w h (ar 28) tn i))) 0 (nI 1)) 29 (nI 0), e, cb, hlt, hrd, hex, Or.inr (Or.inr ⟨h60x, i, by omega, hok2, rfl, scL_tn (scL_th hs2), Or.inr ⟨h79, 0, a0, Or.inl ⟨rfl, q1, q3⟩, q2, Or.inl ⟨g1, (congrArg (fun q => mdl K M q _ σ0) (by exact up_27))⟩⟩⟩)⟩)
                          ·
                            exact absurd ho h114
                    · rw [hs9]
                      show G K Γ (z, 0, 0, L) (mdl K M (va_up (txS sc1 (rdT w h (ar 28) tn (txI w h (ar 28) tn i)) (rdA w h (ar 28) tn (txI w h (ar 28) tn i)) (rdZ w h sc1 (ar 28) tn (txI w h (ar 28) tn i))) 27 (nI 4)) (va_up (va_up (arE (itG w h (sc 3) (ar 28) tn ar pl i) e cb) 25 (va_up (rp3C ((arE (itG w h (sc 3) (ar 28) tn ar pl i) e cb) 25) ((arE (itG w h (sc 3) (ar 28) tn ar pl i) e cb) 5) 0 a0) 3 (nI 20 + (arE (itG w h (sc 3) (ar 28) tn ar pl i) e cb) 5 (98 + a0)))) 26 (va_up (rp3D ((arE (itG w h (sc 3) (ar 28) tn ar pl i) e cb) 26) ((arE (itG w h (sc 3) (ar 28) tn ar pl i) e cb) 5) a0) 3 ((arE (itG w h (sc 3) (ar 28) tn ar pl i) e cb) 10 (8 * sn + wn)))) σ0) 94 [some (.ref M), some (.int (bI (rdO w h (ar 28) tn (txI w h (ar 28) tn i)))), some (.int (nI n)), some (.int (nI (txI w h (ar 28) tn n))), some (.int (nI i))] [.int (nI 0)]
                      refine g_if_ne (n := 97) (tgt := 102) hC dX8_readRecord_94 (fun h9 => absurd h9 (by decide)) (fun _ => ?_)
                      refine g_aload_n (n := 98) hC rfl dX8_readRecord_97 ?_
                      refine g_iconst (n := 99) (v := (nI 1)) hC (by decide) dX8_readRecord_98 ?_
                      refine m_put0 (n := 102) hC hD gp_X8_73 dX8_readRecord_99 ?_
                      refine g_iinc (n := 105) (ll1 := [some (.ref M), some (.int (bI (rdO w h (ar 28) tn (txI w h (ar 28) tn i)))), some (.int (nI n)), some (.int (nI (txI w h (ar 28) tn n))), some (.int (nI (i + 1)))]) hC dX8_readRecord_102 rfl (nI_inc _) rfl ?_
                      refine g_goto (n := 53) hC dX8_readRecord_105 ?_
                      refine g_iload (n := 55) hC rfl dX8_readRecord_53 ?_
                      refine g_iload_n (n := 56) hC rfl dX8_readRecord_55 ?_
                      refine g_icmp_geN (n := 59) (tgt := 108) hC (by omega) (by omega) dX8_readRecord_56 (fun h56 => ?_) (fun h56 => ?_)
                      ·
                        refine g_aload_n (n := 109) hC rfl dX8_readRecord_108 ?_
                        refine g_iconst (n := 110) (v := (nI 0)) hC (by decide) dX8_readRecord_109 ?_
                        refine m_put29 (n := 113) hC hD gp_X8_220 dX8_readRecord_110 ?_
                        refine g_iload_n (n := 114) hC rfl dX8_readRecord_113 ?_
                        refine g_ifb_ne (n := 117) (tgt := 124) hC dX8_readRecord_114 (fun h114 => ?_) (fun h114 => ?_)
                        ·
                          refine g_aload_n (n := 125) hC rfl dX8_readRecord_124 ?_
                          refine m_get (v := .int (nI 1)) (n := 128) hC hD gf_X8_73 dX8_readRecord_125 rfl ?_
                          refine g_iconst (n := 129) (v := (nI 1)) hC (by decide) dX8_readRecord_128 ?_
                          refine g_icmp_neN (n := 132) (tgt := 136) hC (by decide) (by decide) dX8_readRecord_129 (fun h9 => absurd h9 (by decide)) (fun _ => ?_)
                          refine g_iconst (n := 133) (v := (nI 0)) hC (by decide) dX8_readRecord_132 ?_
                          refine g_goto (n := 137) hC dX8_readRecord_133 ?_
                          exact g_iret hC dX8_readRecord_137 (⟨rfl, rfl, n, va_up (va_up (txS sc1 (rdT w h (ar 28) tn (txI w h (ar 28) tn i)) (rdA w h (ar 28) tn (txI w h (ar 28) tn i)) (rdZ w h sc1 (ar 28) tn (txI w h (ar 28) tn i))) 0 (nI 1)) 29 (nI 0), e, cb, hlt, hrd, hex, Or.inr (Or.inr ⟨h60x, i, by omega, hok2, rfl, scL_tn (scL_th hs2), Or.inr ⟨h79, 0, a0, Or.inl ⟨rfl, q1, q3⟩, q2, Or.inr ⟨sn, wn, g2, g3, g4, g5, (congrArg (fun q => mdl K M q _ σ0) (by exact up_27))⟩⟩⟩)⟩)
                        ·
                          exact absurd ho h114
                      ·
                        refine g_iload_n (n := 60) hC rfl dX8_readRecord_59 ?_
                        refine g_ifb_eq (n := 63) (tgt := 108) hC dX8_readRecord_60 (fun h60 => ?_) (fun h60 => ?_)
                        ·
                          exact absurd ho h60
                        ·
                          refine g_aload_n (n := 64) hC rfl dX8_readRecord_63 ?_
                          refine m_get (v := .int (nI 1)) (n := 67) hC hD gf_X8_73 dX8_readRecord_64 rfl ?_
                          refine g_if_ne (n := 70) (tgt := 108) hC dX8_readRecord_67 (fun _ => ?_) (fun h9 => absurd h9 (by decide))
                          refine g_aload_n (n := 109) hC rfl dX8_readRecord_108 ?_
                          refine g_iconst (n := 110) (v := (nI 0)) hC (by decide) dX8_readRecord_109 ?_
                          refine m_put29 (n := 113) hC hD gp_X8_220 dX8_readRecord_110 ?_
                          refine g_iload_n (n := 114) hC rfl dX8_readRecord_113 ?_
                          refine g_ifb_ne (n := 117) (tgt := 124) hC dX8_readRecord_114 (fun h114 => ?_) (fun h114 => ?_)
                          ·
                            refine g_aload_n (n := 125) hC rfl dX8_readRecord_124 ?_
                            refine m_get (v := .int (nI 1)) (n := 128) hC hD gf_X8_73 dX8_readRecord_125 rfl ?_
                            refine g_iconst (n := 129) (v := (nI 1)) hC (by decide) dX8_readRecord_128 ?_
                            refine g_icmp_neN (n := 132) (tgt := 136) hC (by decide) (by decide) dX8_readRecord_129 (fun h9 => absurd h9 (by decide)) (fun _ => ?_)
                            refine g_iconst (n := 133) (v := (nI 0)) hC (by decide) dX8_readRecord_132 ?_
                            refine g_goto (n := 137) hC dX8_readRecord_133 ?_
                            exact g_iret hC dX8_readRecord_137 (⟨rfl, rfl, n, va_up (va_up (txS sc1 (rdT w h (ar 28) tn (txI w h (ar 28) tn i)) (rdA w h (ar 28) tn (txI w h (ar 28) tn i)) (rdZ w h sc1 (ar 28) tn (txI w h (ar 28) tn i))) 0 (nI 1)) 29 (nI 0), e, cb, hlt, hrd, hex, Or.inr (Or.inr ⟨h60x, i, by omega, hok2, rfl, scL_tn (scL_th hs2), Or.inr ⟨h79, 0, a0, Or.inl ⟨rfl, q1, q3⟩, q2, Or.inr ⟨sn, wn, g2, g3, g4, g5, (congrArg (fun q => mdl K M q _ σ0) (by exact up_27))⟩⟩⟩)⟩)
                          ·
                            exact absurd ho h114
                  · rcases hrp with ⟨g1, hs9⟩ | ⟨sn, wn, g2, g3, g4, g5, hs9⟩
                    · rw [hs9]
                      show G K Γ (z, 0, 0, L) (mdl K M (va_up (txS sc1 (rdT w h (ar 28) tn (txI w h (ar 28) tn i)) (rdA w h (ar 28) tn (txI w h (ar 28) tn i)) (rdZ w h sc1 (ar 28) tn (txI w h (ar 28) tn i))) 27 (nI 3)) (va_up (va_up (arE (itG w h (sc 3) (ar 28) tn ar pl i) e cb) 25 (rp3C ((arE (itG w h (sc 3) (ar 28) tn ar pl i) e cb) 25) ((arE (itG w h (sc 3) (ar 28) tn ar pl i) e cb) 5) 1 b0)) 26 (rp3D ((arE (itG w h (sc 3) (ar 28) tn ar pl i) e cb) 26) ((arE (itG w h (sc 3) (ar 28) tn ar pl i) e cb) 5) b0)) σ0) 94 [some (.ref M), some (.int (bI (rdO w h (ar 28) tn (txI w h (ar 28) tn i)))), some (.int (nI n)), some (.int (nI (txI w h (ar 28) tn n))), some (.int (nI i))] [.int (nI 0)]
                      refine g_if_ne (n := 97) (tgt := 102) hC dX8_readRecord_94 (fun h9 => absurd h9 (by decide)) (fun _ => ?_)
                      refine g_aload_n (n := 98) hC rfl dX8_readRecord_97 ?_
                      refine g_iconst (n := 99) (v := (nI 1)) hC (by decide) dX8_readRecord_98 ?_
                      refine m_put0 (n := 102) hC hD gp_X8_73 dX8_readRecord_99 ?_
                      refine g_iinc (n := 105) (ll1 := [some (.ref M), some (.int (bI (rdO w h (ar 28) tn (txI w h (ar 28) tn i)))), some (.int (nI n)), some (.int (nI (txI w h (ar 28) tn n))), some (.int (nI (i + 1)))]) hC dX8_readRecord_102 rfl (nI_inc _) rfl ?_
                      refine g_goto (n := 53) hC dX8_readRecord_105 ?_
                      refine g_iload (n := 55) hC rfl dX8_readRecord_53 ?_
                      refine g_iload_n (n := 56) hC rfl dX8_readRecord_55 ?_
                      refine g_icmp_geN (n := 59) (tgt := 108) hC (by omega) (by omega) dX8_readRecord_56 (fun h56 => ?_) (fun h56 => ?_)
                      ·
                        refine g_aload_n (n := 109) hC rfl dX8_readRecord_108 ?_
                        refine g_iconst (n := 110) (v := (nI 0)) hC (by decide) dX8_readRecord_109 ?_
                        refine m_put29 (n := 113) hC hD gp_X8_220 dX8_readRecord_110 ?_
                        refine g_iload_n (n := 114) hC rfl dX8_readRecord_113 ?_
                        refine g_ifb_ne (n := 117) (tgt := 124) hC dX8_readRecord_114 (fun h114 => ?_) (fun h114 => ?_)
                        ·
                          refine g_aload_n (n := 125) hC rfl dX8_readRecord_124 ?_
                          refine m_get (v := .int (nI 1)) (n := 128) hC hD gf_X8_73 dX8_readRecord_125 rfl ?_
                          refine g_iconst (n := 129) (v := (nI 1)) hC (by decide) dX8_readRecord_128 ?_
                          refine g_icmp_neN (n := 132) (tgt := 136) hC (by decide) (by decide) dX8_readRecord_129 (fun h9 => absurd h9 (by decide)) (fun _ => ?_)
                          refine g_iconst (n := 133) (v := (nI 0)) hC (by decide) dX8_readRecord_132 ?_
                          refine g_goto (n := 137) hC dX8_readRecord_133 ?_
                          exact g_iret hC dX8_readRecord_137 (⟨rfl, rfl, n, va_up (va_up (txS sc1 (rdT w h (ar 28) tn (txI w h (ar 28) tn i)) (rdA w h (ar 28) tn (txI w h (ar 28) tn i)) (rdZ w h sc1 (ar 28) tn (txI w h (ar 28) tn i))) 0 (nI 1)) 29 (nI 0), e, cb, hlt, hrd, hex, Or.inr (Or.inr ⟨h60x, i, by omega, hok2, rfl, scL_tn (scL_th hs2), Or.inr ⟨h79, 1, b0, Or.inr ⟨rfl, q1, q4, q3⟩, q2, Or.inl ⟨g1, (congrArg (fun q => mdl K M q _ σ0) (by exact up_27))⟩⟩⟩)⟩)
                        ·
                          exact absurd ho h114
                      ·
                        refine g_iload_n (n := 60) hC rfl dX8_readRecord_59 ?_
                        refine g_ifb_eq (n := 63) (tgt := 108) hC dX8_readRecord_60 (fun h60 => ?_) (fun h60 => ?_)
                        ·
                          exact absurd ho h60
                        ·
                          refine g_aload_n (n := 64) hC rfl dX8_readRecord_63 ?_
                          refine m_get (v := .int (nI 1)) (n := 67) hC hD gf_X8_73 dX8_readRecord_64 rfl ?_
                          refine g_if_ne (n := 70) (tgt := 108) hC dX8_readRecord_67 (fun _ => ?_) (fun h9 => absurd h9 (by decide))
                          refine g_aload_n (n := 109) hC rfl dX8_readRecord_108 ?_
                          refine g_iconst (n := 110) (v := (nI 0)) hC (by decide) dX8_readRecord_109 ?_
                          refine m_put29 (n := 113) hC hD gp_X8_220 dX8_readRecord_110 ?_
                          refine g_iload_n (n := 114) hC rfl dX8_readRecord_113 ?_
                          refine g_ifb_ne (n := 117) (tgt := 124) hC dX8_readRecord_114 (fun h114 => ?_) (fun h114 => ?_)
                          ·
                            refine g_aload_n (n := 125) hC rfl dX8_readRecord_124 ?_
                            refine m_get (v := .int (nI 1)) (n := 128) hC hD gf_X8_73 dX8_readRecord_125 rfl ?_
                            refine g_iconst (n := 129) (v := (nI 1)) hC (by decide) dX8_readRecord_128 ?_
                            refine g_icmp_neN (n := 132) (tgt := 136) hC (by decide) (by decide) dX8_readRecord_129 (fun h9 => absurd h9 (by decide)) (fun _ => ?_)
                            refine g_iconst (n := 133) (v := (nI 0)) hC (by decide) dX8_readRecord_132 ?_
                            refine g_goto (n := 137) hC dX8_readRecord_133 ?_
                            exact g_iret hC dX8_readRecord_137 (⟨rfl, rfl, n, va_up (va_up (txS sc1 (rdT w h (ar 28) tn (txI w h (ar 28) tn i)) (rdA w h (ar 28) tn (txI w h (ar 28) tn i)) (rdZ w h sc1 (ar 28) tn (txI w h (ar 28) tn i))) 0 (nI 1)) 29 (nI 0), e, cb, hlt, hrd, hex, Or.inr (Or.inr ⟨h60x, i, by omega, hok2, rfl, scL_tn (scL_th hs2), Or.inr ⟨h79, 1, b0, Or.inr ⟨rfl, q1, q4, q3⟩, q2, Or.inl ⟨g1, (congrArg (fun q => mdl K M q _ σ0) (by exact up_27))⟩⟩⟩)⟩)
                          ·
                            exact absurd ho h114
                    · rw [hs9]
                      show G K Γ (z, 0, 0, L) (mdl K M (va_up (txS sc1 (rdT w h (ar 28) tn (txI w h (ar 28) tn i)) (rdA w h (ar 28) tn (txI w h (ar 28) tn i)) (rdZ w h sc1 (ar 28) tn (txI w h (ar 28) tn i))) 27 (nI 4)) (va_up (va_up (arE (itG w h (sc 3) (ar 28) tn ar pl i) e cb) 25 (va_up (rp3C ((arE (itG w h (sc 3) (ar 28) tn ar pl i) e cb) 25) ((arE (itG w h (sc 3) (ar 28) tn ar pl i) e cb) 5) 1 b0) 3 (nI 20 + (arE (itG w h (sc 3) (ar 28) tn ar pl i) e cb) 5 (98 + b0)))) 26 (va_up (rp3D ((arE (itG w h (sc 3) (ar 28) tn ar pl i) e cb) 26) ((arE (itG w h (sc 3) (ar 28) tn ar pl i) e cb) 5) b0) 3 ((arE (itG w h (sc 3) (ar 28) tn ar pl i) e cb) 10 (8 * sn + wn)))) σ0) 94 [some (.ref M), some (.int (bI (rdO w h (ar 28) tn (txI w h (ar 28) tn i)))), some (.int (nI n)), some (.int (nI (txI w h (ar 28) tn n))), some (.int (nI i))] [.int (nI 0)]
                      refine g_if_ne (n := 97) (tgt := 102) hC dX8_readRecord_94 (fun h9 => absurd h9 (by decide)) (fun _ => ?_)
                      refine g_aload_n (n := 98) hC rfl dX8_readRecord_97 ?_
                      refine g_iconst (n := 99) (v := (nI 1)) hC (by decide) dX8_readRecord_98 ?_
                      refine m_put0 (n := 102) hC hD gp_X8_73 dX8_readRecord_99 ?_
                      refine g_iinc (n := 105) (ll1 := [some (.ref M), some (.int (bI (rdO w h (ar 28) tn (txI w h (ar 28) tn i)))), some (.int (nI n)), some (.int (nI (txI w h (ar 28) tn n))), some (.int (nI (i + 1)))]) hC dX8_readRecord_102 rfl (nI_inc _) rfl ?_
                      refine g_goto (n := 53) hC dX8_readRecord_105 ?_
                      refine g_iload (n := 55) hC rfl dX8_readRecord_53 ?_
                      refine g_iload_n (n := 56) hC rfl dX8_readRecord_55 ?_
                      refine g_icmp_geN (n := 59) (tgt := 108) hC (by omega) (by omega) dX8_readRecord_56 (fun h56 => ?_) (fun h56 => ?_)
                      ·
                        refine g_aload_n (n := 109) hC rfl dX8_readRecord_108 ?_
                        refine g_iconst (n := 110) (v := (nI 0)) hC (by decide) dX8_readRecord_109 ?_
                        refine m_put29 (n := 113) hC hD gp_X8_220 dX8_readRecord_110 ?_
                        refine g_iload_n (n := 114) hC rfl dX8_readRecord_113 ?_
                        refine g_ifb_ne (n := 117) (tgt := 124) hC dX8_readRecord_114 (fun h114 => ?_) (fun h114 => ?_)
                        ·
                          refine g_aload_n (n := 125) hC rfl dX8_readRecord_124 ?_
                          refine m_get (v := .int (nI 1)) (n := 128) hC hD gf_X8_73 dX8_readRecord_125 rfl ?_
                          refine g_iconst (n := 129) (v := (nI 1)) hC (by decide) dX8_readRecord_128 ?_
                          refine g_icmp_neN (n := 132) (tgt := 136) hC (by decide) (by decide) dX8_readRecord_129 (fun h9 => absurd h9 (by decide)) (fun _ => ?_)
                          refine g_iconst (n := 133) (v := (nI 0)) hC (by decide) dX8_readRecord_132 ?_
                          refine g_goto (n := 137) hC dX8_readRecord_133 ?_
                          exact g_iret hC dX8_readRecord_137 (⟨rfl, rfl, n, va_up (va_up (txS sc1 (rdT w h (ar 28) tn (txI w h (ar 28) tn i)) (rdA w h (ar 28) tn (txI w h (ar 28) tn i)) (rdZ w h sc1 (ar 28) tn (txI w h (ar 28) tn i))) 0 (nI 1)) 29 (nI 0), e, cb, hlt, hrd, hex, Or.inr (Or.inr ⟨h60x, i, by omega, hok2, rfl, scL_tn (scL_th hs2), Or.inr ⟨h79, 1, b0, Or.inr ⟨rfl, q1, q4, q3⟩, q2, Or.inr ⟨sn, wn, g2, g3, g4, g5, (congrArg (fun q => mdl K M q _ σ0) (by exact up_27))⟩⟩⟩)⟩)
                        ·
                          exact absurd ho h114
                      ·
                        refine g_iload_n (n := 60) hC rfl dX8_readRecord_59 ?_
                        refine g_ifb_eq (n := 63) (tgt := 108) hC dX8_readRecord_60 (fun h60 => ?_) (fun h60 => ?_)
                        ·
                          exact absurd ho h60
                        ·
                          refine g_aload_n (n := 64) hC rfl dX8_readRecord_63 ?_
                          refine m_get (v := .int (nI 1)) (n := 67) hC hD gf_X8_73 dX8_readRecord_64 rfl ?_
                          refine g_if_ne (n := 70) (tgt := 108) hC dX8_readRecord_67 (fun _ => ?_) (fun h9 => absurd h9 (by decide))
                          refine g_aload_n (n := 109) hC rfl dX8_readRecord_108 ?_
                          refine g_iconst (n := 110) (v := (nI 0)) hC (by decide) dX8_readRecord_109 ?_
                          refine m_put29 (n := 113) hC hD gp_X8_220 dX8_readRecord_110 ?_
                          refine g_iload_n (n := 114) hC rfl dX8_readRecord_113 ?_
                          refine g_ifb_ne (n := 117) (tgt := 124) hC dX8_readRecord_114 (fun h114 => ?_) (fun h114 => ?_)
                          ·
                            refine g_aload_n (n := 125) hC rfl dX8_readRecord_124 ?_
                            refine m_get (v := .int (nI 1)) (n := 128) hC hD gf_X8_73 dX8_readRecord_125 rfl ?_
                            refine g_iconst (n := 129) (v := (nI 1)) hC (by decide) dX8_readRecord_128 ?_
                            refine g_icmp_neN (n := 132) (tgt := 136) hC (by decide) (by decide) dX8_readRecord_129 (fun h9 => absurd h9 (by decide)) (fun _ => ?_)
                            refine g_iconst (n := 133) (v := (nI 0)) hC (by decide) dX8_readRecord_132 ?_
                            refine g_goto (n := 137) hC dX8_readRecord_133 ?_
                            exact g_iret hC dX8_readRecord_137 (⟨rfl, rfl, n, va_up (va_up (txS sc1 (rdT w h (ar 28) tn (txI w h (ar 28) tn i)) (rdA w h (ar 28) tn (txI w h (ar 28) tn i)) (rdZ w h sc1 (ar 28) tn (txI w h (ar 28) tn i))) 0 (nI 1)) 29 (nI 0), e, cb, hlt, hrd, hex, Or.inr (Or.inr ⟨h60x, i, by omega, hok2, rfl, scL_tn (scL_th hs2), Or.inr ⟨h79, 1, b0, Or.inr ⟨rfl, q1, q4, q3⟩, q2, Or.inr ⟨sn, wn, g2, g3, g4, g5, (congrArg (fun q => mdl K M q _ σ0) (by exact up_27))⟩⟩⟩)⟩)
                          ·
                            exact absurd ho h114
                  · obtain ⟨-, -, hA⟩ := goA_C hR hcb2
                    have hr3 : (txS sc1 (rdT w h (ar 28) tn (txI w h (ar 28) tn i)) (rdA w h (ar 28) tn (txI w h (ar 28) tn i)) (rdZ w h sc1 (ar 28) tn (txI w h (ar 28) tn i))) 3 = sc 3 := scL_o hs2 3 (by omega)
                    rw [hs9, hA, goC_E, hr3]
                    show G K Γ (z, 0, 0, L) (mdl K M (scS (txS sc1 (rdT w h (ar 28) tn (txI w h (ar 28) tn i)) (rdA w h (ar 28) tn (txI w h (ar 28) tn i)) (rdZ w h sc1 (ar 28) tn (txI w h (ar 28) tn i))) (nI (clN (txA w h (ar 28) tn i) (txB w h (ar 28) tn i))) (nI W) (nI (wsm w h (plM (sc 3) (w * h) ((arE (itG w h (sc 3) (ar 28) tn ar pl i) e cb) 5) ((arE (itG w h (sc 3) (ar 28) tn ar pl i) e cb) 4) (txA w h (ar 28) tn i) (txB w h (ar 28) tn i)) W))) (arE (itG w h (sc 3) (ar 28) tn ar pl (i + 1)) e2 cb2) σ0) 94 [some (.ref M), some (.int (bI (rdO w h (ar 28) tn (txI w h (ar 28) tn i)))), some (.int (nI n)), some (.int (nI (txI w h (ar 28) tn n))), some (.int (nI i))] [.int (nI 1)]
                    refine g_if_ne (n := 97) (tgt := 102) hC dX8_readRecord_94 (fun _ => ?_) (fun h9 => absurd h9 (by decide))
                    refine g_iinc (n := 105) (ll1 := [some (.ref M), some (.int (bI (rdO w h (ar 28) tn (txI w h (ar 28) tn i)))), some (.int (nI n)), some (.int (nI (txI w h (ar 28) tn n))), some (.int (nI (i + 1)))]) hC dX8_readRecord_102 rfl (nI_inc _) rfl ?_
                    refine g_goto (n := 53) hC dX8_readRecord_105 ?_
                    exact ih53 (i + 1) (scS (txS sc1 (rdT w h (ar 28) tn (txI w h (ar 28) tn i)) (rdA w h (ar 28) tn (txI w h (ar 28) tn i)) (rdZ w h sc1 (ar 28) tn (txI w h (ar 28) tn i))) (nI (clN (txA w h (ar 28) tn i) (txB w h (ar 28) tn i))) (nI W) (nI (wsm w h (plM (sc 3) (w * h) ((arE (itG w h (sc 3) (ar 28) tn ar pl i) e cb) 5) ((arE (itG w h (sc 3) (ar 28) tn ar pl i) e cb) 4) (txA w h (ar 28) tn i) (txB w h (ar 28) tn i)) W))) e2 cb2 (by omega) (by first | exact scL_at (scL_0 htn) | exact scL_at hsq | exact scL_tx hsq | exact scL_go hs2) (by rfl) (by first | exact Or.inl rfl | exact Or.inr h60) (by first | exact (fun i hi => absurd hi (Nat.not_lt_zero _)) | exact st_nx4 hok2 ⟨h79, q1⟩) _ (by first | rfl | (simp [*]; done)) _ (by first | rfl | (simp [*]; done)) (by omega)
        refine G.eqs (show _ = mdl K M (va_up sc1 30 (nI 0)) (arE (itG w h (sc 3) (ar 28) tn ar pl 0) (ar 20) (ar 21)) σ0 from (by rw [show itG w h (sc 3) (ar 28) tn ar pl 0 = ar from rfl, arE_id])) ?_
        exact lp53 _ 0 (va_up sc1 30 (nI 0)) (ar 20) (ar 21) (by omega) (by first | exact scL_at (scL_0 htn) | exact scL_at hsq | exact scL_tx hsq | exact scL_go hs2) (by rfl) (by first | exact Or.inl rfl | exact Or.inr h60) (by first | exact (fun i hi => absurd hi (Nat.not_lt_zero _)) | exact st_nx4 hok2 ⟨h79, q1⟩) _ (by first | rfl | (simp [*]; done)) _ (by first | rfl | (simp [*]; done)) (Nat.lt_succ_self _)
      refine m_get (v := .int (nI (txI w h (ar 28) tn n))) (n := 18) hC hD gf_X8_223 dX8_readRecord_15 (congrArg (fun x => some (Value.int x)) (hat1)) ?_
      refine g_aload_n (n := 19) hC rfl dX8_readRecord_18 ?_
      refine m_get (v := .int (nI tn)) (n := 22) hC hD gf_X8_220 dX8_readRecord_19 (congrArg (fun x => some (Value.int x)) (hsq.2.1)) ?_
      refine g_icmp_geN (n := 25) (tgt := 40) hC (by omega) (by omega) dX8_readRecord_22 (fun h22 => ?_) (fun h22 => ?_)
      ·
        exact lp40  (by first | exact Or.inl (by omega) | exact Or.inr h26) _ (by first | rfl | (simp [*]; done))
      ·
        refine g_iload_n (n := 26) hC rfl dX8_readRecord_25 ?_
        refine g_ifb_eq (n := 29) (tgt := 40) hC dX8_readRecord_26 (fun h26 => ?_) (fun h26 => ?_)
        ·
          exact lp40  (by first | exact Or.inl (by omega) | exact Or.inr h26) _ (by first | rfl | (simp [*]; done))
        ·
          refine g_aload_n (n := 30) hC rfl dX8_readRecord_29 ?_
          refine g_cV (n := 33) hC gv_X8_239 (hD 0 (by decide)) mdl_0 (M_isRound K hD hB1 (tn := tn) (t := (txI w h (ar 28) tn n)) (sc := sc1) hsq.2.1 htn80 hat1 (txI_le _ _ _ _ _)) dX8_readRecord_30 ?_
          refine G.eqs (show _ = mdl K M (txS sc1 (rdT w h (ar 28) tn (txI w h (ar 28) tn n)) (rdA w h (ar 28) tn (txI w h (ar 28) tn n)) (rdZ w h sc1 (ar 28) tn (txI w h (ar 28) tn n))) ar σ0 from rfl) ?_
          refine g_istore_n (n := 34) (ll1 := [some (.ref M), some (.int (bI (rdO w h (ar 28) tn (txI w h (ar 28) tn n)))), some (.int (nI n)), none, none]) hC dX8_readRecord_33 rfl ?_
          refine g_iinc (n := 37) (ll1 := [some (.ref M), some (.int (bI (rdO w h (ar 28) tn (txI w h (ar 28) tn n)))), some (.int (nI (n + 1))), none, none]) hC dX8_readRecord_34 rfl (nI_inc _) rfl ?_
          refine g_goto (n := 14) hC dX8_readRecord_37 ?_
          exact ih14 (n + 1) (txS sc1 (rdT w h (ar 28) tn (txI w h (ar 28) tn n)) (rdA w h (ar 28) tn (txI w h (ar 28) tn n)) (rdZ w h sc1 (ar 28) tn (txI w h (ar 28) tn n))) (by first | exact scL_at (scL_0 htn) | exact scL_at hsq | exact scL_tx hsq | exact scL_go hs2) (by rfl) (by first | exact (fun i hi => absurd hi (Nat.not_lt_zero _)) | exact st_nx2 hlt (by omega)) (by first | exact (fun i hi => absurd hi (by omega)) | exact st_nx3 hrd h26) _ (by first | rfl | exact (bI_t (Or.inl rfl)).symm | exact bI_c ⟨Or.inr, fun q => q.resolve_left (by omega)⟩) _ (by first | rfl | (simp [*]; done)) (by omega)
  exact lp14 _ 0 (va_up (va_up sc 0 (nI 0)) 30 (nI 0)) (by first | exact scL_at (scL_0 htn) | exact scL_at hsq | exact scL_tx hsq | exact scL_go hs2) (by rfl) (by first | exact (fun i hi => absurd hi (Nat.not_lt_zero _)) | exact st_nx2 hlt (by omega)) (by first | exact (fun i hi => absurd hi (by omega)) | exact st_nx3 hrd h26) _ (by first | rfl | exact (bI_t (Or.inl rfl)).symm | exact bI_c ⟨Or.inr, fun q => q.resolve_left (by omega)⟩) _ (by first | rfl | (simp [*]; done)) (Nat.lt_succ_self _)
