/-! ===== the class: its input ===== -/
def inpO (a tn cr : Nat) : va_E := .inr (3, [.int (nI tn), .int (nI cr), .ref (a + 1), .ref (a + 2)])
/-- where the a-th choice of a round that begins at t begins -/
noncomputable def stS (w h : Nat) (tx : Nat → Int32) (tn t : Nat) : Nat → Nat
  | 0 => t
  | a + 1 => (chV w h tx tn (stS w h tx tn t a)).2
noncomputable def cvS (w h : Nat) (tx : Nat → Int32) (tn t a : Nat) : Int32 := (chV w h tx tn (stS w h tx tn t a)).1
section PI
variable {w h : Nat} {tx : Nat → Int32} {tn : Nat}
theorem cv0 {t : Nat} : cvS w h tx tn t 0 = rdA w h tx tn t := rfl
theorem cv1 {t : Nat} : cvS w h tx tn t 1 = rdB w h tx tn t := rfl
/-- the i-th round is being read: c choices, d a digit is next, col its column, cr choices in g, t the place -/
def pI (w h : Nat) (tx : Nat → Int32) (tn i c d cr : Nat) (col : Int32) (g : Nat → Int32) (t : Nat) : Prop := (∀ j, j < i → rdO w h tx tn (txI w h tx tn j)) ∧ c ≤ 2 ∧ (∀ a, a < c → cvS w h tx tn (txI w h tx tn i) a ≠ -2) ∧ cr = 2 * i + c ∧ cr ≤ t ∧ t ≤ tn ∧ (∀ j, j < i → g (2 * j) = rdA w h tx tn (txI w h tx tn j) ∧ g (2 * j + 1) = rdB w h tx tn (txI w h tx tn j)) ∧ (∀ a, a < c → g (2 * i + a) = cvS w h tx tn (txI w h tx tn i) a) ∧ ((d = 0 ∧ t = stS w h tx tn (txI w h tx tn i) c) ∨ (d = 1 ∧ c ≤ 1 ∧ t = stS w h tx tn (txI w h tx tn i) c + 1 ∧ cr < t ∧ ¬ hereP tx tn (stS w h tx tn (txI w h tx tn i) c) 45 45 ∧ hereP tx tn (stS w h tx tn (txI w h tx tn i) c) 97 (97 + w - 1) ∧ ∃ c0, c0 < w ∧ col = nI c0 ∧ tx (stS w h tx tn (txI w h tx tn i) c) - nI 97 = nI c0))
theorem pI_0 {g : Nat → Int32} {col : Int32} : pI w h tx tn 0 0 0 0 col g 0 := ⟨fun j hj => absurd hj (Nat.not_lt_zero _), by omega, fun a ha => absurd ha (Nat.not_lt_zero _), rfl, Nat.le_refl _, Nat.zero_le _, fun j hj => absurd hj (Nat.not_lt_zero _), fun a ha => absurd ha (Nat.not_lt_zero _), Or.inl ⟨rfl, rfl⟩⟩
theorem inR_sub {x : Int32} {k n : Nat} (hn : 0 < n) : inN n (x - nI k) ↔ inR k (k + n - 1) x := by
  constructor
  · rintro ⟨j, h1, h2⟩
    refine ⟨k + j, by omega, by omega, ?_⟩
    rw [← nI_add, ← h2, Int32.add_comm, Int32.sub_add_cancel]
  · rintro ⟨j, h1, h2, h3⟩
    refine ⟨j - k, by omega, ?_⟩
    rw [h3, pk_sub h1]
variable {i c d cr t : Nat} {col : Int32} {g : Nat → Int32}
/-- a choice has been read -/
theorem pI_ch {v : Int32} (hI : pI w h tx tn i c d cr col g t) (hc : c ≤ 1) (ht : t < tn) (hv : chV w h tx tn (stS w h tx tn (txI w h tx tn i) c) = (v, t + 1)) (hne : v ≠ -2) : pI w h tx tn i (c + 1) 0 (cr + 1) col (va_up g cr v) (t + 1) := by
  obtain ⟨h1, h2, h3, h4, h5, h6, h7, h8, h9⟩ := hI
  have hcv : cvS w h tx tn (txI w h tx tn i) c = v := by rw [cvS, hv]
  refine ⟨h1, by omega, fun a ha => ?_, by omega, by omega, by omega, fun j hj => ?_, fun a ha => ?_, Or.inl ⟨rfl, by rw [stS, hv]⟩⟩
  · by_cases e : a = c
    · rw [e, hcv]; exact hne
    · exact h3 a (by omega)
  · rw [va_up_ne _ _ (by omega), va_up_ne _ _ (by omega)]; exact h7 j hj
  · by_cases e : a = c
    · rw [e, hcv, ← h4, va_up_self]
    · rw [va_up_ne _ _ (by omega)]; exact h8 a (by omega)
theorem ne_m2 {n : Nat} {v : Int32} (hn : n ≤ 49) (hv : chOK n v) : v ≠ -2 := by
  rcases hv with rfl | ⟨j, hj, rfl⟩
  · decide
  · intro q
    have := congrArg Int32.toInt q
    rw [nI_toInt (by omega)] at this
    have h9 : (-2 : Int32).toInt = -2 := rfl
    omega
theorem pI_digit {r0 : Nat} (hw : 1 ≤ w) (hw7 : w ≤ 7) (hh7 : h ≤ 7) (hI : pI w h tx tn i c 1 cr col g t) (ht : t < tn) (hr : r0 < h) (hx : tx t - nI 49 = nI r0) : ∃ c0, c0 < w ∧ col = nI c0 ∧ pI w h tx tn i (c + 1) 0 (cr + 1) col (va_up g cr (nI (r0 * w + c0))) (t + 1) := by
  have hI9 := hI
  obtain ⟨h1, h2, h3, h4, h5, h6, h7, h8, h9⟩ := hI
  rcases h9 with ⟨q, _⟩ | ⟨_, hc, q1, q2, q3, q4, c0, q5, q6, q7⟩
  · exact absurd q (by decide)
  · have hd : hereP tx tn (stS w h tx tn (txI w h tx tn i) c + 1) 49 (48 + h) := by
      rw [← q1]
      refine ⟨ht, ?_⟩
      have := (inR_sub (k := 49) (n := h) (x := tx t) (by omega)).mp ⟨r0, hr, hx⟩
      rw [show 49 + h - 1 = 48 + h by omega] at this
      exact this
    have hv := chV_4 q3 q4 hd
    rw [← q1, hx, q7, pk_mul, nI_add] at hv
    refine ⟨c0, q5, q6, pI_ch hI9 hc ht hv (ne_m2 (n := w * h) (by have := Nat.mul_le_mul hw7 hh7; omega) (Or.inr ⟨_, ?_, rfl⟩))⟩
    have := Nat.mul_le_mul_right w (show r0 + 1 ≤ h by omega)
    rw [Nat.succ_mul, Nat.mul_comm h w] at this
    omega
theorem pI_pass (hI : pI w h tx tn i c 0 cr col g t) (hc : c ≤ 1) (ht : t < tn) (hx : tx t = nI 45) : pI w h tx tn i (c + 1) 0 (cr + 1) col (va_up g cr (-1)) (t + 1) := by
  have hI9 := hI
  obtain ⟨h1, h2, h3, h4, h5, h6, h7, h8, h9⟩ := hI
  rcases h9 with ⟨_, q⟩ | ⟨q, _⟩
  · refine pI_ch hI9 hc ht ?_ (by decide)
    rw [← q]
    exact chV_1 ⟨ht, 45, by omega, by omega, hx⟩
  · exact absurd q (by decide)
theorem not45 {t : Nat} (hx : ¬ tx t = nI 45) : ¬ hereP tx tn t 45 45 := fun ⟨_, j, h1, h2, h3⟩ => hx (by rw [h3]; congr 1; omega)
theorem pI_let {c0 : Nat} (hI : pI w h tx tn i c 0 cr col g t) (hc : c ≤ 1) (ht : t < tn) (hx : ¬ tx t = nI 45) (hl : c0 < w) (hy : tx t - nI 97 = nI c0) : pI w h tx tn i c 1 cr (tx t - nI 97) g (t + 1) := by
  obtain ⟨h1, h2, h3, h4, h5, h6, h7, h8, h9⟩ := hI
  rcases h9 with ⟨_, q⟩ | ⟨q, _⟩
  · refine ⟨h1, h2, h3, h4, by omega, by omega, h7, h8, Or.inr ⟨rfl, hc, by rw [← q], by omega, by rw [← q]; exact not45 hx, by rw [← q]; exact ⟨ht, (inR_sub (by omega)).mp ⟨c0, hl, hy⟩⟩, c0, hl, hy, by rw [← q]; exact hy⟩⟩
  · exact absurd q (by decide)
theorem rdE_s {t : Nat} : rdE w h tx tn t = stS w h tx tn t 2 := rfl
theorem pI_semi (hI : pI w h tx tn i 2 0 cr col g t) (ht : t < tn) (hx : tx t = nI 59) : pI w h tx tn (i + 1) 0 0 cr col g (t + 1) := by
  obtain ⟨h1, h2, h3, h4, h5, h6, h7, h8, h9⟩ := hI
  rcases h9 with ⟨_, q⟩ | ⟨q, _⟩
  · have hA := h3 0 (by omega)
    have hB := h3 1 (by omega)
    rw [cv0] at hA
    rw [cv1] at hB
    have hS : hereP tx tn (rdE w h tx tn (txI w h tx tn i)) 59 59 := by rw [rdE_s, ← q]; exact ⟨ht, 59, by omega, by omega, hx⟩
    have hO : rdO w h tx tn (txI w h tx tn i) := ⟨hA, hB, hS⟩
    have hT : txI w h tx tn (i + 1) = t + 1 := by rw [txI, rdT, if_neg hA, if_neg hB, iteP_t hS, rdE_s, ← q]
    refine ⟨fun j hj => ?_, by omega, fun a ha => absurd ha (Nat.not_lt_zero _), by omega, by omega, by omega, fun j hj => ?_, fun a ha => absurd ha (Nat.not_lt_zero _), Or.inl ⟨rfl, hT.symm⟩⟩
    · by_cases e : j = i
      · rw [e]; exact hO
      · exact h1 j (by omega)
    · by_cases e : j = i
      · subst e; exact ⟨h8 0 (by omega), h8 1 (by omega)⟩
      · exact h7 j (by omega)
  · exact absurd q (by decide)
/-- what a text that goes wrong at t has -/
def errT (w h : Nat) (tx : Nat → Int32) (tn i t : Nat) : Prop := (∀ j, j < i → rdO w h tx tn (txI w h tx tn j)) ∧ ¬ rdO w h tx tn (txI w h tx tn i) ∧ txI w h tx tn (i + 1) = t ∧ txI w h tx tn i < tn
theorem chV_gt0 {t : Nat} (q : ¬ (chV w h tx tn t).1 = -2) : t + 1 ≤ (chV w h tx tn t).2 := by
  by_cases q1 : hereP tx tn t 45 45
  · rw [chV_1 q1]; exact Nat.le_refl _
  · by_cases q2 : hereP tx tn t 97 (97 + w - 1)
    · by_cases q3 : hereP tx tn (t + 1) 49 (48 + h)
      · rw [chV_4 q1 q2 q3]; exact Nat.le_succ _
      · rw [chV_3 q1 q2 q3] at q; exact absurd rfl q
    · rw [chV_2 q1 q2] at q; exact absurd rfl q
theorem stS_le {t : Nat} : ∀ c, (∀ a, a < c → cvS w h tx tn t a ≠ -2) → t + c ≤ stS w h tx tn t c
  | 0, _ => Nat.le_refl _
  | c + 1, hc => by
    have h1 := stS_le c (fun a ha => hc a (by omega))
    have h2 := chV_gt0 (hc c (by omega))
    rw [stS]; omega
theorem pI_le (hI : pI w h tx tn i c d cr col g t) : txI w h tx tn i + c + d ≤ t := by
  obtain ⟨h1, h2, h3, h4, h5, h6, h7, h8, h9⟩ := hI
  have := stS_le c h3
  rcases h9 with ⟨q, q1⟩ | ⟨q, _, q1, _⟩ <;> omega
theorem err_2 {v : Nat} (h1 : ∀ j, j < i → rdO w h tx tn (txI w h tx tn j)) (h3 : ∀ a, a < c → cvS w h tx tn (txI w h tx tn i) a ≠ -2) (hc : c ≤ 1) (hv : chV w h tx tn (stS w h tx tn (txI w h tx tn i) c) = (-2, v)) (hlt : txI w h tx tn i < tn) : errT w h tx tn i v := by
  refine ⟨h1, fun hO => ?_, ?_, hlt⟩
  · rcases (show c = 0 ∨ c = 1 by omega) with rfl | rfl
    · exact hO.1 (congrArg Prod.fst hv)
    · exact hO.2.1 (congrArg Prod.fst hv)
  · rw [txI, rdT]
    rcases (show c = 0 ∨ c = 1 by omega) with rfl | rfl
    · rw [if_pos (show rdA w h tx tn (txI w h tx tn i) = -2 from congrArg Prod.fst hv)]; exact congrArg Prod.snd hv
    · rw [if_neg (show ¬ rdA w h tx tn (txI w h tx tn i) = -2 from h3 0 (by omega)), if_pos (show rdB w h tx tn (txI w h tx tn i) = -2 from congrArg Prod.fst hv)]; exact congrArg Prod.snd hv
theorem err_d (hI : pI w h tx tn i c 1 cr col g t) (hx : ¬ hereP tx tn t 49 (48 + h)) : errT w h tx tn i t := by
  have hle9 := pI_le hI
  obtain ⟨h1, h2, h3, h4, h5, h6, h7, h8, h9⟩ := hI
  rcases h9 with ⟨q, _⟩ | ⟨_, hc, q1, q2, q3, q4, _⟩
  · exact absurd q (by decide)
  · have hv := chV_3 (h := h) q3 q4 (by rw [← q1]; exact hx)
    rw [← q1] at hv
    exact err_2 h1 h3 hc hv (by omega)
theorem err_l (hI : pI w h tx tn i c 0 cr col g t) (hc : c ≤ 1) (hx : ¬ hereP tx tn t 45 45) (hy : ¬ hereP tx tn t 97 (97 + w - 1)) (hlt : txI w h tx tn i < tn) : errT w h tx tn i t := by
  have hle9 := pI_le hI
  obtain ⟨h1, h2, h3, h4, h5, h6, h7, h8, h9⟩ := hI
  rcases h9 with ⟨_, q⟩ | ⟨q, _⟩
  · refine err_2 h1 h3 hc ?_ hlt
    rw [← q]
    exact chV_2 hx hy
  · exact absurd q (by decide)
theorem err_s (hI : pI w h tx tn i 2 0 cr col g t) (hx : ¬ hereP tx tn t 59 59) : errT w h tx tn i t := by
  have hle9 := pI_le hI
  obtain ⟨h1, h2, h3, h4, h5, h6, h7, h8, h9⟩ := hI
  rcases h9 with ⟨_, q⟩ | ⟨q, _⟩
  · refine ⟨h1, fun hO => hx (by rw [q]; exact hO.2.2), ?_, by omega⟩
    rw [txI, rdT, if_neg (show ¬ rdA w h tx tn (txI w h tx tn i) = -2 from h3 0 (by omega)), if_neg (show ¬ rdB w h tx tn (txI w h tx tn i) = -2 from h3 1 (by omega)), iteP_f (by rw [rdE_s, ← q]; exact hx), rdE_s, ← q]
  · exact absurd q (by decide)
theorem err_e (hI : pI w h tx tn i c d cr col g t) (ht : tn ≤ t) (hne : ¬ (c = 0 ∧ d = 0)) : errT w h tx tn i tn := by
  have h6 : t ≤ tn := hI.2.2.2.2.2.1
  have e : t = tn := by omega
  subst e
  have no : ∀ lo hi, ¬ hereP tx t t lo hi := fun lo hi q => absurd q.1 (by omega)
  have hd := hI.2.2.2.2.2.2.2.2
  rcases hd with ⟨q, _⟩ | ⟨q, _⟩
  · subst q
    rcases (show c = 0 ∨ c = 1 ∨ c = 2 by have := hI.2.1; omega) with rfl | rfl | rfl
    · exact absurd ⟨rfl, rfl⟩ hne
    · exact err_l hI (by omega) (no _ _) (no _ _) (by have := pI_le hI; omega)
    · exact err_s hI (no _ _)
  · subst q
    exact err_d hI (no _ _)
end PI
/-- what reading finds -/
def prR (w h : Nat) (tx : Nat → Int32) (tn : Nat) (x : Int32) (cr : Nat) (g : Nat → Int32) : Prop := (x = -1 ∧ ∃ n, txI w h tx tn n = tn ∧ (∀ j, j < n → rdO w h tx tn (txI w h tx tn j)) ∧ cr = 2 * n ∧ ∀ j, j < n → g (2 * j) = txA w h tx tn j ∧ g (2 * j + 1) = txB w h tx tn j) ∨ ∃ i t, t ≤ tn ∧ x = nI t ∧ errT w h tx tn i t
theorem pr_ok {w h : Nat} {tx : Nat → Int32} {tn i cr t : Nat} {col : Int32} {g : Nat → Int32} (hI : pI w h tx tn i 0 0 cr col g t) (ht : tn ≤ t) : prR w h tx tn (-1) cr g := by
  obtain ⟨h1, h2, h3, h4, h5, h6, h7, h8, h9⟩ := hI
  rcases h9 with ⟨_, q⟩ | ⟨q, _⟩
  · exact Or.inl ⟨rfl, i, by rw [show tn = t by omega]; exact (by rw [show tn = t by omega] at q; exact q.symm), h1, by omega, h7⟩
  · exact absurd q (by decide)
theorem pr_ok2 {w h : Nat} {tx : Nat → Int32} {tn i c d cr t : Nat} {col : Int32} {g : Nat → Int32} (hI : pI w h tx tn i c d cr col g t) (hc : c = 0) (hd : d = 0) (ht : tn ≤ t) : prR w h tx tn (-1) cr g := by
  subst hc
  subst hd
  exact pr_ok hI ht

set_option maxRecDepth 20000 in
theorem X_append0 (K : GK) {σ : GS} {L : List Nat} {z : Nat} {a tn cr : Nat} {tx g : Nat → Int32} (m0 : a ∈ L) (m1 : a + 1 ∈ L) (m2 : a + 2 ∈ L) (s0 : σ a = inpO a tn cr) (s1 : σ (a + 1) = cA K 80 tx) (s2 : σ (a + 2) = iA K 80 g) {v : Int32} (h80 : tn = 80) : gT K yX3_append cX3_append 2 (some .boolean) 0 [.ref a, .int v] z L (σ) (some (.int (nI 0))) (σ) := by
  refine g_intro [some (.ref a), some (.int v)] (fun Γ hC => ?_) (by simp [g_en, lv_args, Value.category])
  refine g_aload_n (n := 1) hC rfl dX3_append_0 ?_
  refine g_getf (n := 4) (v := .int (nI tn)) hC gf_X3_19 (m0) (s0) rfl dX3_append_1 ?_
  refine g_if_ltN (n := 7) (tgt := 16) hC (by omega) dX3_append_4 (fun h4 => h4.elim) (fun h4 => ?_)
  refine g_aload_n (n := 8) hC rfl dX3_append_7 ?_
  refine g_getf (n := 11) (v := .int (nI tn)) hC gf_X3_19 (m0) (s0) rfl dX3_append_8 ?_
  refine g_bipush (n := 13) (v := (nI 80)) hC (by decide) dX3_append_11 ?_
  refine g_icmp_ltN (n := 16) (tgt := 18) hC (by omega) (by omega) dX3_append_13 (fun h13 => absurd h13 (by omega)) (fun h13 => ?_)
  refine g_iconst (n := 17) (v := (nI 0)) hC (by decide) dX3_append_16 ?_
  exact g_zret hC (by rfl) dX3_append_17 (⟨by first | rfl | (simp [*]; done), rfl, rfl, rfl⟩)

set_option maxRecDepth 20000 in
theorem X_append1 (K : GK) {σ : GS} {L : List Nat} {z : Nat} {a tn cr : Nat} {tx g : Nat → Int32} (m0 : a ∈ L) (m1 : a + 1 ∈ L) (m2 : a + 2 ∈ L) (s0 : σ a = inpO a tn cr) (s1 : σ (a + 1) = cA K 80 tx) (s2 : σ (a + 2) = iA K 80 g) {v : Nat} (h80 : tn < 80) (hv : v < 65536) : gT K yX3_append cX3_append 2 (some .boolean) 0 [.ref a, .int (nI v)] z L (σ) (some (.int (nI 1))) (va_up (va_up σ (a + 1) (cA K 80 (va_up tx tn (nI v)))) a (inpO a (tn + 1) cr)) := by
  refine g_intro [some (.ref a), some (.int (nI v))] (fun Γ hC => ?_) (by simp [g_en, lv_args, Value.category])
  refine g_aload_n (n := 1) hC rfl dX3_append_0 ?_
  refine g_getf (n := 4) (v := .int (nI tn)) hC gf_X3_19 (m0) (s0) rfl dX3_append_1 ?_
  refine g_if_ltN (n := 7) (tgt := 16) hC (by omega) dX3_append_4 (fun h4 => h4.elim) (fun h4 => ?_)
  refine g_aload_n (n := 8) hC rfl dX3_append_7 ?_
  refine g_getf (n := 11) (v := .int (nI tn)) hC gf_X3_19 (m0) (s0) rfl dX3_append_8 ?_
  refine g_bipush (n := 13) (v := (nI 80)) hC (by decide) dX3_append_11 ?_
  refine g_icmp_ltN (n := 16) (tgt := 18) hC (by omega) (by omega) dX3_append_13 (fun h13 => ?_) (fun h13 => absurd h80 (by omega))
  refine g_aload_n (n := 19) hC rfl dX3_append_18 ?_
  refine g_getf (n := 22) (v := .ref (a + 1)) hC gf_X3_9 (m0) (s0) rfl dX3_append_19 ?_
  refine g_aload_n (n := 23) hC rfl dX3_append_22 ?_
  refine g_getf (n := 26) (v := .int (nI tn)) hC gf_X3_19 (m0) (s0) rfl dX3_append_23 ?_
  refine g_iload_n (n := 27) hC rfl dX3_append_26 ?_
  refine g_cast (n := 28) (j := tn) (f := tx) hC ((pk_charN hv).1) (m1) (s1) (rfl) (by omega) (by decide) dX3_append_27 ?_
  refine g_aload_n (n := 29) hC rfl dX3_append_28 ?_
  refine g_dup (n := 30) hC rfl dX3_append_29 ?_
  refine g_getf (n := 33) (v := .int (nI tn)) hC gf_X3_19 (m0) ((va_up_ne _ _ (by omega)).trans (s0)) rfl dX3_append_30 ?_
  refine g_iconst (n := 34) (v := (nI 1)) hC (by decide) dX3_append_33 ?_
  refine g_iaddN (n := 35) hC dX3_append_34 ?_
  refine g_putf (n := 38) hC gp_X3_19 (m0) ((va_up_ne _ _ (by omega)).trans (s0)) dX3_append_35 ?_
  refine G.eqs (show _ = va_up (va_up (σ) (a + 1) (cA K 80 (va_up tx tn (nI v)))) a (.inr (3, [.int (nI (tn + 1)), .int (nI cr), .ref (a + 1), .ref (a + 2)])) from rfl) ?_
  refine g_iconst (n := 39) (v := (nI 1)) hC (by decide) dX3_append_38 ?_
  exact g_zret hC (by rfl) dX3_append_39 (⟨by first | rfl | (simp [*]; done), rfl, rfl, rfl⟩)

set_option maxRecDepth 20000 in
theorem X_ichoice (K : GK) {σ : GS} {L : List Nat} {z : Nat} {a tn cr : Nat} {tx g : Nat → Int32} (m0 : a ∈ L) (m1 : a + 1 ∈ L) (m2 : a + 2 ∈ L) (s0 : σ a = inpO a tn cr) (s1 : σ (a + 1) = cA K 80 tx) (s2 : σ (a + 2) = iA K 80 g) {i : Nat} (hi : i < 80) : gT K yX3_choice cX3_choice 2 (some .int) 0 [.ref a, .int (nI i)] z L (σ) (some (.int (g i))) (σ) := by
  refine g_intro [some (.ref a), some (.int (nI i))] (fun Γ hC => ?_) (by simp [g_en, lv_args, Value.category])
  refine g_iload_n (n := 1) hC rfl dX3_choice_0 ?_
  refine g_if_ltN (n := 4) (tgt := 19) hC (by omega) dX3_choice_1 (fun h1 => h1.elim) (fun h1 => ?_)
  refine g_iload_n (n := 5) hC rfl dX3_choice_4 ?_
  refine g_bipush (n := 7) (v := (nI 80)) hC (by decide) dX3_choice_5 ?_
  refine g_icmp_geN (n := 10) (tgt := 19) hC (by omega) (by omega) dX3_choice_7 (fun h7 => absurd h7 (by omega)) (fun h7 => ?_)
  refine g_aload_n (n := 11) hC rfl dX3_choice_10 ?_
  refine g_getf (n := 14) (v := .ref (a + 2)) hC gf_X3_15 (m0) (s0) rfl dX3_choice_11 ?_
  refine g_iload_n (n := 15) hC rfl dX3_choice_14 ?_
  refine g_iald (n := 16) (j := i) hC (m2) (s2) (rfl) (by omega) (by omega) dX3_choice_15 ?_
  refine g_goto (n := 20) hC dX3_choice_16 ?_
  exact g_iret hC dX3_choice_20 (⟨by first | rfl | (simp [*]; done), rfl, rfl, rfl⟩)

set_option maxRecDepth 20000 in
theorem X_addChoice (K : GK) {σ : GS} {L : List Nat} {z : Nat} {a tn cr : Nat} {tx g : Nat → Int32} (m0 : a ∈ L) (m1 : a + 1 ∈ L) (m2 : a + 2 ∈ L) (s0 : σ a = inpO a tn cr) (s1 : σ (a + 1) = cA K 80 tx) (s2 : σ (a + 2) = iA K 80 g) {v : Int32} (hcr : cr < 80) : gT K yX3_addChoice cX3_addChoice 2 none 0 [.ref a, .int v] z L (σ) none (va_up (va_up σ (a + 2) (iA K 80 (va_up g cr v))) a (inpO a tn (cr + 1))) := by
  refine g_intro [some (.ref a), some (.int v)] (fun Γ hC => ?_) (by simp [g_en, lv_args, Value.category])
  refine g_aload_n (n := 1) hC rfl dX3_addChoice_0 ?_
  refine g_getf (n := 4) (v := .int (nI cr)) hC gf_X3_23 (m0) (s0) rfl dX3_addChoice_1 ?_
  refine g_if_ltN (n := 7) (tgt := 36) hC (by omega) dX3_addChoice_4 (fun h4 => h4.elim) (fun h4 => ?_)
  refine g_aload_n (n := 8) hC rfl dX3_addChoice_7 ?_
  refine g_getf (n := 11) (v := .int (nI cr)) hC gf_X3_23 (m0) (s0) rfl dX3_addChoice_8 ?_
  refine g_bipush (n := 13) (v := (nI 80)) hC (by decide) dX3_addChoice_11 ?_
  refine g_icmp_geN (n := 16) (tgt := 36) hC (by omega) (by omega) dX3_addChoice_13 (fun h13 => absurd h13 (by omega)) (fun h13 => ?_)
  refine g_aload_n (n := 17) hC rfl dX3_addChoice_16 ?_
  refine g_getf (n := 20) (v := .ref (a + 2)) hC gf_X3_15 (m0) (s0) rfl dX3_addChoice_17 ?_
  refine g_aload_n (n := 21) hC rfl dX3_addChoice_20 ?_
  refine g_getf (n := 24) (v := .int (nI cr)) hC gf_X3_23 (m0) (s0) rfl dX3_addChoice_21 ?_
  refine g_iload_n (n := 25) hC rfl dX3_addChoice_24 ?_
  refine g_iast (n := 26) (j := cr) (f := g) hC (m2) (s2) (rfl) (by omega) (by decide) dX3_addChoice_25 ?_
  refine g_aload_n (n := 27) hC rfl dX3_addChoice_26 ?_
  refine g_dup (n := 28) hC rfl dX3_addChoice_27 ?_
  refine g_getf (n := 31) (v := .int (nI cr)) hC gf_X3_23 (m0) ((va_up_ne _ _ (by omega)).trans (s0)) rfl dX3_addChoice_28 ?_
  refine g_iconst (n := 32) (v := (nI 1)) hC (by decide) dX3_addChoice_31 ?_
  refine g_iaddN (n := 33) hC dX3_addChoice_32 ?_
  refine g_putf (n := 36) hC gp_X3_23 (m0) ((va_up_ne _ _ (by omega)).trans (s0)) dX3_addChoice_33 ?_
  refine G.eqs (show _ = va_up (va_up (σ) (a + 2) (iA K 80 (va_up g cr v))) a (.inr (3, [.int (nI tn), .int (nI (cr + 1)), .ref (a + 1), .ref (a + 2)])) from rfl) ?_
  exact g_vret hC dX3_addChoice_36 (⟨rfl, rfl, rfl, rfl⟩)

set_option maxRecDepth 20000 in
set_option maxHeartbeats 4000000 in
theorem X_parse (K : GK) {σ : GS} {L : List Nat} {z : Nat} {a tn cr : Nat} {tx g : Nat → Int32} (m0 : a ∈ L) (m1 : a + 1 ∈ L) (m2 : a + 2 ∈ L) (s0 : σ a = inpO a tn cr) (s1 : σ (a + 1) = cA K 80 tx) (s2 : σ (a + 2) = iA K 80 g) {b : Nat} {w h : Nat} (hbL : b ∈ L) (hsb : σ b = bdA w h) (hw1 : 4 ≤ w) (hw2 : w ≤ 7) (hh1 : 4 ≤ h) (hh2 : h ≤ 7) (htn : tn ≤ 80) (hba : b < a ∨ a + 2 < b) : gM K yX3_parse cX3_parse 8 (some .int) 1 0 0 [.ref a, .ref b] z L (σ) (fun r z1 L1 σ2 => ∃ x9, r = some (.int x9) ∧ z1 = z ∧ L1 = L ∧ (∃ g9 c9, σ2 = va_up (va_up σ (a + 2) (iA K 80 (g9))) a (inpO a tn (c9)) ∧ prR w h tx tn x9 c9 g9)) := by
  have hn : w * h ≤ 49 := Nat.mul_le_mul hw2 hh2
  have hn1 : 16 ≤ w * h := Nat.mul_le_mul hw1 hh1
  refine g_intro [some (.ref a), some (.ref b), none, none, none, none, none, none] (fun Γ hC => ?_) (by simp [g_en, lv_args, Value.category])
  refine g_aload_n (n := 1) hC rfl dX3_parse_0 ?_
  refine g_iconst (n := 2) (v := (nI 0)) hC (by decide) dX3_parse_1 ?_
  refine g_putf (n := 5) hC gp_X3_23 (m0) (s0) dX3_parse_2 ?_
  refine G.eqs (show _ = va_up (σ) a (.inr (3, [.int (nI tn), .int (nI 0), .ref (a + 1), .ref (a + 2)])) from rfl) ?_
  refine g_iconst (n := 6) (v := (nI 0)) hC (by decide) dX3_parse_5 ?_
  refine g_istore_n (n := 7) (ll1 := [some (.ref a), some (.ref b), some (.int (nI 0)), none, none, none, none, none]) hC dX3_parse_6 rfl ?_
  refine g_iconst (n := 8) (v := (nI 0)) hC (by decide) dX3_parse_7 ?_
  refine g_istore_n (n := 9) (ll1 := [some (.ref a), some (.ref b), some (.int (nI 0)), some (.int (nI 0)), none, none, none, none]) hC dX3_parse_8 rfl ?_
  refine g_iconst (n := 10) (v := (nI 0)) hC (by decide) dX3_parse_9 ?_
  refine g_istore (n := 12) (ll1 := [some (.ref a), some (.ref b), some (.int (nI 0)), some (.int (nI 0)), some (.int (nI 0)), none, none, none]) hC dX3_parse_10 rfl ?_
  refine g_iconst (n := 13) (v := (nI 0)) hC (by decide) dX3_parse_12 ?_
  refine g_istore (n := 15) (ll1 := [some (.ref a), some (.ref b), some (.int (nI 0)), some (.int (nI 0)), some (.int (nI 0)), some (.int (nI 0)), none, none]) hC dX3_parse_13 rfl ?_
  have lp15 : ∀ (n9 : Nat) (at1 : Nat) (i1 : Nat) (ch1 : Nat) (d1 : Nat) (c1 : Nat) (g1 : Nat → Int32) (col1 : Int32) (hI : pI w h tx tn i1 ch1 d1 c1 col1 g1 at1) (y2 : Int32) (ey2 : y2 = (nI ch1)) (y4 : Int32) (ey4 : y4 = (nI d1)) (y5 : Int32) (ey5 : y5 = (nI at1)) (hm9 : tn - at1 < n9), G K Γ (z, 0, 0, L) (va_up (va_up σ (a + 2) (iA K 80 (g1))) a (inpO a tn (c1))) 15 [some (.ref a), some (.ref b), some (.int y2), some (.int col1), some (.int y4), some (.int y5), none, none] [] := by
    intro n9
    induction n9 with
    | zero =>
      intro at1 i1 ch1 d1 c1 g1 col1 hI y2 ey2 y4 ey4 y5 ey5 hm9
      exact absurd hm9 (Nat.not_lt_zero _)
    | succ n9 ih15 =>
      intro at1 i1 ch1 d1 c1 g1 col1 hI y2 ey2 y4 ey4 y5 ey5 hm9
      subst ey2
      subst ey4
      subst ey5
      have hat9 : at1 ≤ tn := hI.2.2.2.2.2.1
      have hch9 : ch1 ≤ 2 := hI.2.1
      have hd9 : d1 ≤ 1 := by rcases hI.2.2.2.2.2.2.2.2 with ⟨q, _⟩ | ⟨q, _⟩ <;> omega
      refine g_iload (n := 17) hC rfl dX3_parse_15 ?_
      refine g_aload_n (n := 18) hC rfl dX3_parse_17 ?_
      refine g_getf (n := 21) (v := .int (nI tn)) hC gf_X3_19 (m0) (va_up_self _ _ _) rfl dX3_parse_18 ?_
      refine g_icmp_geN (n := 24) (tgt := 157) hC (by omega) (by omega) dX3_parse_21 (fun h21 => ?_) (fun h21 => ?_)
      ·
        refine g_iload_n (n := 158) hC rfl dX3_parse_157 ?_
        refine g_if_neN (n := 161) (tgt := 170) hC (by omega) dX3_parse_158 (fun h158 => ?_) (fun h158 => ?_)
        ·
          refine g_aload_n (n := 171) hC rfl dX3_parse_170 ?_
          refine g_getf (n := 174) (v := .int (nI tn)) hC gf_X3_19 (m0) (va_up_self _ _ _) rfl dX3_parse_171 ?_
          exact g_iret hC dX3_parse_174 (⟨_, rfl, rfl, rfl, _, _, rfl, Or.inr ⟨i1, tn, Nat.le_refl _, rfl, err_e hI (by omega) (fun q => h158 q.1)⟩⟩)
        ·
          refine g_iload (n := 163) hC rfl dX3_parse_161 ?_
          refine g_if_neN (n := 166) (tgt := 170) hC (by omega) dX3_parse_163 (fun h163 => ?_) (fun h163 => ?_)
          ·
            refine g_aload_n (n := 171) hC rfl dX3_parse_170 ?_
            refine g_getf (n := 174) (v := .int (nI tn)) hC gf_X3_19 (m0) (va_up_self _ _ _) rfl dX3_parse_171 ?_
            exact g_iret hC dX3_parse_174 (⟨_, rfl, rfl, rfl, _, _, rfl, Or.inr ⟨i1, tn, Nat.le_refl _, rfl, err_e hI (by omega) (fun q => h163 q.2)⟩⟩)
          ·
            refine g_iconst (n := 167) (v := (-1)) hC (by decide) dX3_parse_166 ?_
            refine g_goto (n := 174) hC dX3_parse_167 ?_
            exact g_iret hC dX3_parse_174 (⟨_, rfl, rfl, rfl, _, _, rfl, pr_ok2 hI (by omega) (by omega) (by omega)⟩)
      ·
        refine g_iload (n := 26) hC rfl dX3_parse_24 ?_
        refine g_bipush (n := 28) (v := (nI 80)) hC (by decide) dX3_parse_26 ?_
        refine g_icmp_geN (n := 31) (tgt := 157) hC (by omega) (by omega) dX3_parse_28 (fun h28 => absurd h28 (by have := hI.2.2.2.2.2.1; omega)) (fun h28 => ?_)
        refine g_aload_n (n := 32) hC rfl dX3_parse_31 ?_
        refine g_getf (n := 35) (v := .ref (a + 1)) hC gf_X3_9 (m0) (va_up_self _ _ _) rfl dX3_parse_32 ?_
        refine g_iload (n := 37) hC rfl dX3_parse_35 ?_
        refine g_cald (n := 38) (j := at1) hC (m1) (((va_up_ne _ _ (by omega)).trans ((va_up_ne _ _ (by omega)).trans s1))) (rfl) (by omega) (by omega) dX3_parse_37 ?_
        refine g_istore (n := 40) (ll1 := [some (.ref a), some (.ref b), some (.int (nI ch1)), some (.int col1), some (.int (nI d1)), some (.int (nI at1)), some (.int (tx at1)), none]) hC dX3_parse_38 rfl ?_
        refine g_iload (n := 42) hC rfl dX3_parse_40 ?_
        refine g_if_eqN (n := 45) (tgt := 89) hC (by omega) dX3_parse_42 (fun h42 => ?_) (fun h42 => ?_)
        ·
          obtain rfl : d1 = 0 := by omega
          refine g_iload_n (n := 90) hC rfl dX3_parse_89 ?_
          refine g_iconst (n := 91) (v := (nI 2)) hC (by decide) dX3_parse_90 ?_
          refine g_icmp_neN (n := 94) (tgt := 109) hC (by omega) (by omega) dX3_parse_91 (fun h91 => ?_) (fun h91 => ?_)
          ·
            have hcle : ch1 ≤ 1 := by have := hI.2.1; omega
            refine g_iload (n := 111) hC rfl dX3_parse_109 ?_
            refine g_bipush (n := 113) (v := (nI 45)) hC (by decide) dX3_parse_111 ?_
            refine g_icmp_ne (n := 116) (tgt := 127) hC dX3_parse_113 (fun h113 => ?_) (fun h113 => ?_)
            ·
              refine g_iload (n := 129) hC rfl dX3_parse_127 ?_
              refine g_bipush (n := 131) (v := (nI 97)) hC (by decide) dX3_parse_129 ?_
              refine g_isub (n := 132) hC dX3_parse_131 ?_
              refine g_istore_n (n := 133) (ll1 := [some (.ref a), some (.ref b), some (.int (nI ch1)), some (.int ((tx at1) - (nI 97))), some (.int (nI 0)), some (.int (nI at1)), some (.int (tx at1)), none]) hC dX3_parse_132 rfl ?_
              refine g_iload_n (n := 134) hC rfl dX3_parse_133 ?_
              refine g_if_lt (n := 137) (tgt := 145) hC dX3_parse_134 (fun h134 => ?_) (fun h134 => ?_)
              ·
                refine g_iload (n := 147) hC rfl dX3_parse_145 ?_
                exact g_iret hC dX3_parse_147 (⟨_, rfl, rfl, rfl, _, _, rfl, Or.inr ⟨i1, at1, by omega, rfl, err_l hI hcle (not45 h113) (fun q => absurd ((inN_b (by omega)).mpr ((inR_sub (by omega)).mpr q.2)).1 (Int32.not_le.mpr h134)) (by have := pI_le hI; omega)⟩⟩)
              ·
                refine g_iload_n (n := 138) hC rfl dX3_parse_137 ?_
                refine g_aload_n (n := 139) hC rfl dX3_parse_138 ?_
                refine g_getf (n := 142) (v := .int (nI w)) hC gf_X3_39 (hbL) (((va_up_ne _ _ (by omega)).trans ((va_up_ne _ _ (by omega)).trans hsb))) rfl dX3_parse_139 ?_
                refine g_icmp_lt (n := 145) (tgt := 148) hC dX3_parse_142 (fun h142 => ?_) (fun h142 => ?_)
                ·
                  obtain ⟨c0, hc0, hx0⟩ := (inN_b (by omega)).mp ⟨Int32.not_lt.mp h134, h142⟩
                  have hI2 := pI_let hI hcle (by omega) h113 hc0 hx0
                  refine g_iconst (n := 149) (v := (nI 1)) hC (by decide) dX3_parse_148 ?_
                  refine g_istore (n := 151) (ll1 := [some (.ref a), some (.ref b), some (.int (nI ch1)), some (.int ((tx at1) - (nI 97))), some (.int (nI 1)), some (.int (nI at1)), some (.int (tx at1)), none]) hC dX3_parse_149 rfl ?_
                  refine g_iinc (n := 154) (ll1 := [some (.ref a), some (.ref b), some (.int (nI ch1)), some (.int ((tx at1) - (nI 97))), some (.int (nI 1)), some (.int (nI (at1 + 1))), some (.int (tx at1)), none]) hC dX3_parse_151 rfl (nI_inc _) rfl ?_
                  refine g_goto (n := 15) hC dX3_parse_154 ?_
                  exact G.le (ih15 (at1 + 1) i1 ch1 1 c1 g1 (tx at1 - nI 97) (by first | exact pI_0 | exact hI2) _ (by first | rfl | (simp [*]; done)) _ (by first | rfl | (simp [*]; done)) _ (by first | rfl | (simp [*]; done)) (by omega)) (And.intro rfl (And.intro rfl (And.intro rfl (And.intro rfl (And.intro rfl (And.intro rfl (trivial)))))))
                ·
                  refine g_iload (n := 147) hC rfl dX3_parse_145 ?_
                  exact g_iret hC dX3_parse_147 (⟨_, rfl, rfl, rfl, _, _, rfl, Or.inr ⟨i1, at1, by omega, rfl, err_l hI hcle (not45 h113) (fun q => h142 ((inN_b (by omega)).mpr ((inR_sub (by omega)).mpr q.2)).2) (by have := pI_le hI; omega)⟩⟩)
            ·
              have hI2 := pI_pass hI hcle (by omega) h113
              refine g_aload_n (n := 117) hC rfl dX3_parse_116 ?_
              refine g_iconst (n := 118) (v := (-1)) hC (by decide) dX3_parse_117 ?_
              refine g_cVv (n := 121) hC gv_X3_35 (m0) (va_up_self _ _ _) (X_addChoice K (tx := tx) m0 m1 m2 (va_up_self _ _ _) ((va_up_ne _ _ (by omega)).trans ((va_up_ne _ _ (by omega)).trans s1)) ((va_up_ne _ _ (by omega)).trans (va_up_self _ _ _)) (v := -1) (by have := hI.2.2.2.2.1; omega)) dX3_parse_118 ?_
              refine G.eqs (show _ = va_up (va_up σ (a + 2) (iA K 80 (va_up g1 c1 (-1)))) a (inpO a tn (c1 + 1)) from by rw [va_upc (by omega), bx_uu, va_upc (by omega), bx_uu]) ?_
              refine g_iinc (n := 124) (ll1 := [some (.ref a), some (.ref b), some (.int (nI (ch1 + 1))), some (.int col1), some (.int (nI 0)), some (.int (nI at1)), some (.int (tx at1)), none]) hC dX3_parse_121 rfl (nI_inc _) rfl ?_
              refine g_goto (n := 151) hC dX3_parse_124 ?_
              refine g_iinc (n := 154) (ll1 := [some (.ref a), some (.ref b), some (.int (nI (ch1 + 1))), some (.int col1), some (.int (nI 0)), some (.int (nI (at1 + 1))), some (.int (tx at1)), none]) hC dX3_parse_151 rfl (nI_inc _) rfl ?_
              refine g_goto (n := 15) hC dX3_parse_154 ?_
              refine G.eqs (show _ = va_up (va_up σ (a + 2) (iA K 80 ((va_up g1 c1 (-1))))) a (inpO a tn ((c1 + 1))) from rfl) ?_
              exact G.le (ih15 (at1 + 1) i1 (ch1 + 1) 0 (c1 + 1) (va_up g1 c1 (-1)) col1 (by first | exact pI_0 | exact hI2) _ (by first | rfl | (simp [*]; done)) _ (by first | rfl | (simp [*]; done)) _ (by first | rfl | (simp [*]; done)) (by omega)) (And.intro rfl (And.intro rfl (And.intro rfl (And.intro rfl (And.intro rfl (And.intro rfl (trivial)))))))
          ·
            obtain rfl : ch1 = 2 := by omega
            refine g_iload (n := 96) hC rfl dX3_parse_94 ?_
            refine g_bipush (n := 98) (v := (nI 59)) hC (by decide) dX3_parse_96 ?_
            refine g_icmp_eq (n := 101) (tgt := 104) hC dX3_parse_98 (fun h98 => ?_) (fun h98 => ?_)
            ·
              have hI2 := pI_semi hI (by omega) h98
              refine g_iconst (n := 105) (v := (nI 0)) hC (by decide) dX3_parse_104 ?_
              refine g_istore_n (n := 106) (ll1 := [some (.ref a), some (.ref b), some (.int (nI 0)), some (.int col1), some (.int (nI 0)), some (.int (nI at1)), some (.int (tx at1)), none]) hC dX3_parse_105 rfl ?_
              refine g_goto (n := 151) hC dX3_parse_106 ?_
              refine g_iinc (n := 154) (ll1 := [some (.ref a), some (.ref b), some (.int (nI 0)), some (.int col1), some (.int (nI 0)), some (.int (nI (at1 + 1))), some (.int (tx at1)), none]) hC dX3_parse_151 rfl (nI_inc _) rfl ?_
              refine g_goto (n := 15) hC dX3_parse_154 ?_
              exact G.le (ih15 (at1 + 1) (i1 + 1) 0 0 c1 g1 col1 (by first | exact pI_0 | exact hI2) _ (by first | rfl | (simp [*]; done)) _ (by first | rfl | (simp [*]; done)) _ (by first | rfl | (simp [*]; done)) (by omega)) (And.intro rfl (And.intro rfl (And.intro rfl (And.intro rfl (And.intro rfl (And.intro rfl (trivial)))))))
            ·
              refine g_iload (n := 103) hC rfl dX3_parse_101 ?_
              exact g_iret hC dX3_parse_103 (⟨_, rfl, rfl, rfl, _, _, rfl, Or.inr ⟨i1, at1, by omega, rfl, err_s hI (fun ⟨_, j, q1, q2, q3⟩ => h98 (by rw [q3]; congr 1; omega))⟩⟩)
        ·
          obtain rfl : d1 = 1 := by rcases hI.2.2.2.2.2.2.2.2 with ⟨q, _⟩ | ⟨q, _⟩ <;> omega
          refine g_iload (n := 47) hC rfl dX3_parse_45 ?_
          refine g_bipush (n := 49) (v := (nI 49)) hC (by decide) dX3_parse_47 ?_
          refine g_isub (n := 50) hC dX3_parse_49 ?_
          refine g_istore (n := 52) (ll1 := [some (.ref a), some (.ref b), some (.int (nI ch1)), some (.int col1), some (.int (nI 1)), some (.int (nI at1)), some (.int (tx at1)), some (.int ((tx at1) - (nI 49)))]) hC dX3_parse_50 rfl ?_
          refine g_iload (n := 54) hC rfl dX3_parse_52 ?_
          refine g_if_lt (n := 57) (tgt := 66) hC dX3_parse_54 (fun h54 => ?_) (fun h54 => ?_)
          ·
            refine g_iload (n := 68) hC rfl dX3_parse_66 ?_
            exact g_iret hC dX3_parse_68 (⟨_, rfl, rfl, rfl, _, _, rfl, Or.inr ⟨i1, at1, by omega, rfl, err_d hI (fun q => by have := (inR_sub (k := 49) (n := h) (by omega)).mpr (by rw [show 49 + h - 1 = 48 + h by omega]; exact q.2); exact absurd ((inN_b (by omega)).mpr this).1 (Int32.not_le.mpr h54))⟩⟩)
          ·
            refine g_iload (n := 59) hC rfl dX3_parse_57 ?_
            refine g_aload_n (n := 60) hC rfl dX3_parse_59 ?_
            refine g_getf (n := 63) (v := .int (nI h)) hC gf_X3_26 (hbL) (((va_up_ne _ _ (by omega)).trans ((va_up_ne _ _ (by omega)).trans hsb))) rfl dX3_parse_60 ?_
            refine g_icmp_lt (n := 66) (tgt := 69) hC dX3_parse_63 (fun h63 => ?_) (fun h63 => ?_)
            ·
              obtain ⟨r0, hr0, hx0⟩ := (inN_b (by omega)).mp ⟨Int32.not_lt.mp h54, h63⟩
              obtain ⟨c0, hc0, hcl, hI2⟩ := pI_digit (by omega) hw2 hh2 hI (by omega) hr0 hx0
              subst hcl
              rw [hx0]
              refine g_aload_n (n := 70) hC rfl dX3_parse_69 ?_
              refine g_aload_n (n := 71) hC rfl dX3_parse_70 ?_
              refine g_iload_n (n := 72) hC rfl dX3_parse_71 ?_
              refine g_iload (n := 74) hC rfl dX3_parse_72 ?_
              refine g_cV (n := 77) hC gv_X3_31 (hbL) (((va_up_ne _ _ (by omega)).trans ((va_up_ne _ _ (by omega)).trans hsb))) (X_cellAt K hbL ((va_up_ne _ _ (by omega)).trans ((va_up_ne _ _ (by omega)).trans hsb)) hw1 hw2 hh1 hh2 (a := c0) (b := r0)) dX3_parse_74 ?_
              refine g_cVv (n := 80) hC gv_X3_35 (m0) (va_up_self _ _ _) (X_addChoice K (tx := tx) m0 m1 m2 (va_up_self _ _ _) ((va_up_ne _ _ (by omega)).trans ((va_up_ne _ _ (by omega)).trans s1)) ((va_up_ne _ _ (by omega)).trans (va_up_self _ _ _)) (v := nI (r0 * w + c0)) (by have := hI.2.2.2.2.1; omega)) dX3_parse_77 ?_
              refine G.eqs (show _ = va_up (va_up σ (a + 2) (iA K 80 (va_up g1 c1 (nI (r0 * w + c0))))) a (inpO a tn (c1 + 1)) from by rw [va_upc (by omega), bx_uu, va_upc (by omega), bx_uu]) ?_
              refine g_iinc (n := 83) (ll1 := [some (.ref a), some (.ref b), some (.int (nI (ch1 + 1))), some (.int (nI c0)), some (.int (nI 1)), some (.int (nI at1)), some (.int (tx at1)), some (.int (nI r0))]) hC dX3_parse_80 rfl (nI_inc _) rfl ?_
              refine g_iconst (n := 84) (v := (nI 0)) hC (by decide) dX3_parse_83 ?_
              refine g_istore (n := 86) (ll1 := [some (.ref a), some (.ref b), some (.int (nI (ch1 + 1))), some (.int (nI c0)), some (.int (nI 0)), some (.int (nI at1)), some (.int (tx at1)), some (.int (nI r0))]) hC dX3_parse_84 rfl ?_
              refine g_goto (n := 151) hC dX3_parse_86 ?_
              refine g_iinc (n := 154) (ll1 := [some (.ref a), some (.ref b), some (.int (nI (ch1 + 1))), some (.int (nI c0)), some (.int (nI 0)), some (.int (nI (at1 + 1))), some (.int (tx at1)), some (.int (nI r0))]) hC dX3_parse_151 rfl (nI_inc _) rfl ?_
              refine g_goto (n := 15) hC dX3_parse_154 ?_
              refine G.eqs (show _ = va_up (va_up σ (a + 2) (iA K 80 ((va_up g1 c1 (nI (r0 * w + c0)))))) a (inpO a tn ((c1 + 1))) from rfl) ?_
              exact G.le (ih15 (at1 + 1) i1 (ch1 + 1) 0 (c1 + 1) (va_up g1 c1 (nI (r0 * w + c0))) (nI c0) (by first | exact pI_0 | exact hI2) _ (by first | rfl | (simp [*]; done)) _ (by first | rfl | (simp [*]; done)) _ (by first | rfl | (simp [*]; done)) (by omega)) (And.intro rfl (And.intro rfl (And.intro rfl (And.intro rfl (And.intro rfl (And.intro rfl (trivial)))))))
            ·
              refine g_iload (n := 68) hC rfl dX3_parse_66 ?_
              exact g_iret hC dX3_parse_68 (⟨_, rfl, rfl, rfl, _, _, rfl, Or.inr ⟨i1, at1, by omega, rfl, err_d hI (fun q => by have := (inR_sub (k := 49) (n := h) (by omega)).mpr (by rw [show 49 + h - 1 = 48 + h by omega]; exact q.2); exact h63 ((inN_b (by omega)).mpr this).2)⟩⟩)
  refine G.eqs (show _ = va_up (va_up σ (a + 2) (iA K 80 (g))) a (inpO a tn (0)) from (by rw [show va_up σ (a + 2) (iA K 80 g) = σ from by rw [← s2, va_up_same]]; rfl)) ?_
  exact lp15 _ 0 0 0 0 0 g (nI 0) (by first | exact pI_0 | exact hI2) _ (by first | rfl | (simp [*]; done)) _ (by first | rfl | (simp [*]; done)) _ (by first | rfl | (simp [*]; done)) (Nat.lt_succ_self _)

def rfsO (a k : Nat) : va_E := .inr (5, [.int (nI k), .ref (a + 1), .ref (a + 2)])
def rfU (K : GK) (σ : GS) (a k : Nat) (cd dt : Nat → Int32) : GS := va_up (va_up (va_up σ (a + 1) (iA K 4 cd)) (a + 2) (iA K 4 dt)) a (rfsO a k)
theorem rfU_0 {K : GK} {σ : GS} {a k : Nat} {cd dt : Nat → Int32} : rfU K σ a k cd dt a = rfsO a k := va_up_self _ _ _
theorem rfU_1 {K : GK} {σ : GS} {a k : Nat} {cd dt : Nat → Int32} : rfU K σ a k cd dt (a + 1) = iA K 4 cd := by rw [rfU, va_up_ne _ _ (by omega), va_up_ne _ _ (by omega), va_up_self]
theorem rfU_2 {K : GK} {σ : GS} {a k : Nat} {cd dt : Nat → Int32} : rfU K σ a k cd dt (a + 2) = iA K 4 dt := by rw [rfU, va_up_ne _ _ (by omega), va_up_self]
theorem rfU_o {K : GK} {σ : GS} {a k b : Nat} {cd dt : Nat → Int32} (h : b < a ∨ a + 2 < b) : rfU K σ a k cd dt b = σ b := by rw [rfU, va_up_ne _ _ (by omega), va_up_ne _ _ (by omega), va_up_ne _ _ (by omega)]
theorem rf_ext {K : GK} {σ σ1 : GS} {a k : Nat} {cd dt : Nat → Int32} (h0 : σ1 a = rfsO a k) (h1 : σ1 (a + 1) = iA K 4 cd) (h2 : σ1 (a + 2) = iA K 4 dt) (ho : ∀ b, b < a ∨ a + 2 < b → σ1 b = σ b) : σ1 = rfU K σ a k cd dt := by
  funext b
  by_cases e : b < a ∨ a + 2 < b
  · rw [ho b e, rfU_o e]
  · rcases (show b = a ∨ b = a + 1 ∨ b = a + 2 by omega) with rfl | rfl | rfl
    · rw [h0, rfU_0]
    · rw [h1, rfU_1]
    · rw [h2, rfU_2]

set_option maxRecDepth 20000 in
theorem X_radd (K : GK) {σ : GS} {L : List Nat} {z : Nat} {a k : Nat} {v u : Int32} {cd dt : Nat → Int32} (m0 : a ∈ L) (m1 : a + 1 ∈ L) (m2 : a + 2 ∈ L) (hk : k < 4) : gT K yX5_add cX5_add 3 none 0 [.ref a, .int v, .int u] z L (rfU K σ a k cd dt) none (rfU K σ a (k + 1) (va_up cd k v) (va_up dt k u)) := by
  refine g_intro [some (.ref a), some (.int v), some (.int u)] (fun Γ hC => ?_) (by simp [g_en, lv_args, Value.category])
  refine g_aload_n (n := 1) hC rfl dX5_add_0 ?_
  refine g_getf (n := 4) (v := .int (nI k)) hC gf_X5_18 (m0) (rfU_0) rfl dX5_add_1 ?_
  refine g_if_ltN (n := 7) (tgt := 45) hC (by omega) dX5_add_4 (fun h4 => h4.elim) (fun h4 => ?_)
  refine g_aload_n (n := 8) hC rfl dX5_add_7 ?_
  refine g_getf (n := 11) (v := .int (nI k)) hC gf_X5_18 (m0) (rfU_0) rfl dX5_add_8 ?_
  refine g_iconst (n := 12) (v := (nI 4)) hC (by decide) dX5_add_11 ?_
  refine g_icmp_geN (n := 15) (tgt := 45) hC (by omega) (by omega) dX5_add_12 (fun h12 => absurd h12 (by omega)) (fun h12 => ?_)
  refine g_aload_n (n := 16) hC rfl dX5_add_15 ?_
  refine g_getf (n := 19) (v := .ref (a + 1)) hC gf_X5_9 (m0) (rfU_0) rfl dX5_add_16 ?_
  refine g_aload_n (n := 20) hC rfl dX5_add_19 ?_
  refine g_getf (n := 23) (v := .int (nI k)) hC gf_X5_18 (m0) (rfU_0) rfl dX5_add_20 ?_
  refine g_iload_n (n := 24) hC rfl dX5_add_23 ?_
  refine g_iast (n := 25) (j := k) (f := cd) hC (m1) (rfU_1) (rfl) (by omega) (by decide) dX5_add_24 ?_
  refine g_aload_n (n := 26) hC rfl dX5_add_25 ?_
  refine g_getf (n := 29) (v := .ref (a + 2)) hC gf_X5_15 (m0) ((va_up_ne _ _ (by omega)).trans (rfU_0)) rfl dX5_add_26 ?_
  refine g_aload_n (n := 30) hC rfl dX5_add_29 ?_
  refine g_getf (n := 33) (v := .int (nI k)) hC gf_X5_18 (m0) ((va_up_ne _ _ (by omega)).trans (rfU_0)) rfl dX5_add_30 ?_
  refine g_iload_n (n := 34) hC rfl dX5_add_33 ?_
  refine g_iast (n := 35) (j := k) (f := dt) hC (m2) ((va_up_ne _ _ (by omega)).trans (rfU_2)) (rfl) (by omega) (by decide) dX5_add_34 ?_
  refine g_aload_n (n := 36) hC rfl dX5_add_35 ?_
  refine g_dup (n := 37) hC rfl dX5_add_36 ?_
  refine g_getf (n := 40) (v := .int (nI k)) hC gf_X5_18 (m0) ((va_up_ne _ _ (by omega)).trans ((va_up_ne _ _ (by omega)).trans (rfU_0))) rfl dX5_add_37 ?_
  refine g_iconst (n := 41) (v := (nI 1)) hC (by decide) dX5_add_40 ?_
  refine g_iaddN (n := 42) hC dX5_add_41 ?_
  refine g_putf (n := 45) hC gp_X5_18 (m0) ((va_up_ne _ _ (by omega)).trans ((va_up_ne _ _ (by omega)).trans (rfU_0))) dX5_add_42 ?_
  refine G.eqs (show _ = va_up (va_up (va_up (rfU K σ a k cd dt) (a + 1) (iA K 4 (va_up cd k v))) (a + 2) (iA K 4 (va_up dt k u))) a (.inr (5, [.int (nI (k + 1)), .ref (a + 1), .ref (a + 2)])) from rfl) ?_
  exact g_vret hC dX5_add_45 (⟨rfl, rfl, rfl, (rf_ext (va_up_self _ _ _) (by rw [va_up_ne _ _ (by omega), va_up_ne _ _ (by omega), va_up_self]) (by rw [va_up_ne _ _ (by omega), va_up_self]) (fun b hb => by rw [va_up_ne _ _ (by omega), va_up_ne _ _ (by omega), va_up_ne _ _ (by omega), rfU_o hb]))⟩)
