/-! ===== the class: a wave ===== -/
theorem and_0 {x y : Int64} : x &&& y = 0 ↔ ∀ i, tb x i = true → tb y i = false := by
  constructor
  · intro h i hi
    have h1 : tb (x &&& y) i = false := by rw [h, tb_0]
    rw [tb_and, hi, Bool.true_and] at h1
    exact h1
  · intro h
    apply tb_ext
    intro i _
    rw [tb_and, tb_0]
    cases e : tb x i
    · rfl
    · rw [h i e]; rfl
theorem encV_ne {w h : Nat} (hw : 1 ≤ w) (hn : w * h ≤ 49) {x : Int64} (hx : ∀ i, tb x i = true → i < w * h) {c : Nat} : encV w h x c ≠ 0 ↔ tb x c = true ∧ rgn w h x c &&& edgF w h = 0 := by
  unfold encV
  by_cases q : tb x c = true ∧ rgn w h x c &&& edgF w h = 0
  · rw [if_pos q]
    refine ⟨fun _ => q, fun _ e => ?_⟩
    have h1 := ct_0.mp e c (by have := hx c q.1; omega)
    rw [rgn_self hw (by omega) hx q.1] at h1
    cases h1
  · rw [if_neg q]
    exact ⟨fun h => absurd rfl h, fun h => absurd h q⟩
theorem encV_ct {w h : Nat} {x : Int64} {c : Nat} (h0 : encV w h x c ≠ 0) : encV w h x c = ct (tb (rgn w h x c)) 49 := by
  unfold encV at h0 ⊢
  by_cases q : tb x c = true ∧ rgn w h x c &&& edgF w h = 0
  · rw [if_pos q]
  · rw [if_neg q] at h0; exact absurd rfl h0
noncomputable def enF (w h : Nat) (f : Nat → Int32) (p : Nat) : Int64 := bitsF (fun c => decide (encV w h (outF f (w * h) p) c ≠ 0)) (w * h)
theorem tb_enF {w h : Nat} {f : Nat → Int32} {p : Nat} (hn : w * h ≤ 49) (c : Nat) : tb (enF w h f p) c = true ↔ c < w * h ∧ encV w h (outF f (w * h) p) c ≠ 0 := by
  rw [enF, tb_bitsF _ _ (by omega), Bool.and_eq_true, decide_eq_true_eq, decide_eq_true_eq]
theorem en_x {w h : Nat} {f : Nat → Int32} {p : Nat} (hw : 1 ≤ w) (hn : w * h ≤ 49) : outF f (w * h) p &&& (fld w h (outF f (w * h) p) (edgF w h &&& outF f (w * h) p) ^^^ (-1)) = enF w h f p := by
  have hx : ∀ i, tb (outF f (w * h) p) i = true → i < w * h := fun i hi => outF_lt (by omega) hi
  apply tb_ext
  intro c hc
  rw [Bool.eq_iff_iff, tb_less, tb_enF hn, encV_ne hw hn hx]
  constructor
  · rintro ⟨h1, h2⟩
    refine ⟨hx c h1, h1, and_0.mpr fun i hi => ?_⟩
    have h3 := (tb_rgn hw (by omega) hx h1 i).mp hi
    cases e : tb (edgF w h) i
    · rfl
    · have h4 : tb (fld w h (outF f (w * h) p) (edgF w h &&& outF f (w * h) p)) c = true := (tb_fld hw (by omega) hx (fun j hj => by rw [tb_and, Bool.and_eq_true] at hj; exact hj.2) c).mpr ⟨i, by rw [tb_and, e, comp_in h1 h3]; rfl, comp_sy h1 h3⟩
      rw [h2] at h4
      cases h4
  · rintro ⟨_, h1, h2⟩
    refine ⟨h1, ?_⟩
    cases e : tb (fld w h (outF f (w * h) p) (edgF w h &&& outF f (w * h) p)) c
    · rfl
    · obtain ⟨i, h3, h4⟩ := (tb_fld hw (by omega) hx (fun j hj => by rw [tb_and, Bool.and_eq_true] at hj; exact hj.2) c).mp e
      rw [tb_and, Bool.and_eq_true] at h3
      have h5 := and_0.mp h2 i ((tb_rgn hw (by omega) hx h1 i).mpr (comp_sy h3.2 h4))
      rw [h3.1] at h5
      cases h5
noncomputable def lgF (w h : Nat) (s m t : Int64) (k : Nat) : Int64 := bitsF (fun i => decide (i < k) && (tb s i && decide (ct (tb (rgn w h t i)) 49 < ct (tb (rgn w h m i)) 49))) (w * h)
theorem tb_lgF {w h : Nat} {s m t : Int64} {k : Nat} (hn : w * h ≤ 49) (i : Nat) : tb (lgF w h s m t k) i = true ↔ i < w * h ∧ i < k ∧ tb s i = true ∧ ct (tb (rgn w h t i)) 49 < ct (tb (rgn w h m i)) 49 := by
  rw [lgF, tb_bitsF _ _ (by omega)]; simp
theorem lg_0 {w h : Nat} {s m t : Int64} (hn : w * h ≤ 49) : (0 : Int64) = lgF w h s m t 0 := by
  apply tb_ext
  intro i _
  rw [Bool.eq_iff_iff, tb_lgF hn, tb_0]
  simp
theorem lg_z {w h : Nat} {s m t : Int64} {k : Nat} (hn : w * h ≤ 49) (h0 : s = 0) : lgF w h s m t k = lgF w h s m t (w * h) := by
  apply tb_ext
  intro i _
  rw [Bool.eq_iff_iff, tb_lgF hn, tb_lgF hn, h0, tb_0]
  simp
theorem lg_ct {w h : Nat} (hw : 1 ≤ w) (hn : w * h ≤ 49) {x s : Int64} {c : Nat} (hc : c < 64) (hx : ∀ i, tb x i = true → i < w * h) (hs : tb s c = true → tb x c = true) : ct (tb (fld w h x (s &&& sl 1 c &&& x))) 64 = if tb s c = true then ct (tb (rgn w h x c)) 49 else 0 := by
  have e : s &&& sl 1 c &&& x = if tb s c = true then sl 1 c &&& x else 0 := by
    apply tb_ext
    intro i hi
    by_cases q : tb s c = true
    · rw [if_pos q, tb_and, tb_and, tb_and, tb_one]
      by_cases e2 : i = c
      · subst e2; simp [q]
      · simp [e2]
    · rw [if_neg q, tb_and, tb_and, tb_one, tb_0]
      by_cases e2 : i = c
      · subst e2; simp [q]
      · simp [e2]
  rw [e]
  by_cases q : tb s c = true
  · rw [if_pos q, if_pos q, fld_in (hs q) hc, ct_64 (n := 49) (by omega) (fun i hi => by have := hx i (comp_in (hs q) ((tb_rgn hw (by omega) hx (hs q) i).mp hi)); omega)]
  · rw [if_neg q, if_neg q, fld, itr_0]; decide +kernel
theorem lg_t {w h : Nat} (hw : 1 ≤ w) (hn : w * h ≤ 49) {s m t : Int64} {c : Nat} (hc : c < w * h) (hm : ∀ i, tb m i = true → i < w * h) (ht : ∀ i, tb t i = true → i < w * h) (hsm : ∀ i, tb s i = true → tb m i = true) (hst : ∀ i, tb s i = true → tb t i = true) (q : ct (tb (fld w h t (s &&& sl 1 c &&& t))) 64 < ct (tb (fld w h m (s &&& sl 1 c &&& m))) 64) : lgF w h s m t c ||| (s &&& sl 1 c) = lgF w h s m t (c + 1) := by
  rw [lg_ct hw hn (by omega) ht (hst c), lg_ct hw hn (by omega) hm (hsm c)] at q
  have hsc : tb s c = true := by
    by_cases e : tb s c = true
    · exact e
    · rw [if_neg e, if_neg e] at q; omega
  rw [if_pos hsc, if_pos hsc] at q
  apply tb_ext
  intro i hi
  rw [Bool.eq_iff_iff, tb_or, Bool.or_eq_true, tb_lgF hn, tb_lgF hn, tb_and, tb_one, Bool.and_eq_true, Bool.and_eq_true, decide_eq_true_eq, decide_eq_true_eq]
  constructor
  · rintro (⟨h1, h2, h3⟩ | ⟨h1, h2, rfl⟩)
    · exact ⟨h1, by omega, h3⟩
    · exact ⟨hc, by omega, h1, q⟩
  · rintro ⟨h1, h2, h3, h4⟩
    by_cases e : i = c
    · exact Or.inr ⟨h3, hi, e⟩
    · exact Or.inl ⟨h1, by omega, h3, h4⟩
theorem lg_f {w h : Nat} (hw : 1 ≤ w) (hn : w * h ≤ 49) {s m t : Int64} {c : Nat} (hc : c < w * h) (hm : ∀ i, tb m i = true → i < w * h) (ht : ∀ i, tb t i = true → i < w * h) (hsm : ∀ i, tb s i = true → tb m i = true) (hst : ∀ i, tb s i = true → tb t i = true) (q : ct (tb (fld w h m (s &&& sl 1 c &&& m))) 64 ≤ ct (tb (fld w h t (s &&& sl 1 c &&& t))) 64) : lgF w h s m t c = lgF w h s m t (c + 1) := by
  rw [lg_ct hw hn (by omega) ht (hst c), lg_ct hw hn (by omega) hm (hsm c)] at q
  apply tb_ext
  intro i hi
  rw [Bool.eq_iff_iff, tb_lgF hn, tb_lgF hn]
  constructor
  · rintro ⟨h1, h2, h3⟩
    exact ⟨h1, by omega, h3⟩
  · rintro ⟨h1, h2, h3, h4⟩
    by_cases e : i = c
    · subst e
      rw [if_pos h3, if_pos h3] at q
      omega
    · exact ⟨h1, by omega, h3, h4⟩
noncomputable def gnF (w h : Nat) (f : Nat → Int32) (p : Nat) : Int64 := bitsF (fun c => decide (encV w h (outF f (w * h) (1 - p)) c < encV w h (outF f (w * h) p) c)) (w * h)
theorem tb_gnF {w h : Nat} {f : Nat → Int32} {p : Nat} (hn : w * h ≤ 49) (c : Nat) : tb (gnF w h f p) c = true ↔ c < w * h ∧ encV w h (outF f (w * h) (1 - p)) c < encV w h (outF f (w * h) p) c := by
  rw [gnF, tb_bitsF _ _ (by omega), Bool.and_eq_true, decide_eq_true_eq, decide_eq_true_eq]
theorem gn_x {w h : Nat} {f : Nat → Int32} {p q : Nat} (hn : w * h ≤ 49) (hq : q = 1 - p) {b : Int64} (hb : ∀ c, tb b c = true ↔ tb (enF w h f p) c = true ∧ tb (enF w h f q) c = true) : (enF w h f p &&& (b ^^^ (-1))) ||| lgF w h b (outF f (w * h) p) (outF f (w * h) q) (w * h) = gnF w h f p := by
  subst hq
  apply tb_ext
  intro c hc
  rw [Bool.eq_iff_iff, tb_or, Bool.or_eq_true, tb_less, tb_lgF hn, tb_gnF hn, hb c, tb_enF hn, tb_enF hn]
  have hbf : tb b c = false ↔ ¬ (tb (enF w h f p) c = true ∧ tb (enF w h f (1 - p)) c = true) := by rw [← hb c]; simp
  rw [hbf, tb_enF hn, tb_enF hn]
  constructor
  · rintro (⟨⟨h1, h2⟩, h3⟩ | ⟨h1, _, ⟨⟨_, h2⟩, _, h3⟩, h4⟩)
    · refine ⟨h1, ?_⟩
      have h4 : encV w h (outF f (w * h) (1 - p)) c = 0 := by
        by_cases e : encV w h (outF f (w * h) (1 - p)) c = 0
        · exact e
        · exact absurd ⟨⟨h1, h2⟩, h1, e⟩ h3
      omega
    · refine ⟨h1, ?_⟩
      rw [encV_ct h2, encV_ct h3]
      exact h4
  · rintro ⟨h1, h2⟩
    by_cases e : encV w h (outF f (w * h) (1 - p)) c = 0
    · exact Or.inl ⟨⟨h1, by omega⟩, fun z => z.2.2 e⟩
    · refine Or.inr ⟨h1, h1, ⟨⟨h1, by omega⟩, h1, e⟩, ?_⟩
      rw [encV_ct e, encV_ct (x := outF f (w * h) p) (by omega)] at h2
      exact h2
/-- the cells that a wave changes -/
noncomputable def chM (w h : Nat) (f : Nat → Int32) : Int64 := bitsF (fun c => decide (wA w h f c ≠ wB w h f c)) (w * h)
theorem ch_x {w h : Nat} {f : Nat → Int32} (hn : w * h ≤ 49) : gnF w h f 0 ||| gnF w h f 1 = chM w h f := by
  apply tb_ext
  intro c hc
  rw [Bool.eq_iff_iff, tb_or, Bool.or_eq_true, tb_gnF hn, tb_gnF hn, chM, tb_bitsF _ _ (by omega), Bool.and_eq_true, decide_eq_true_eq, decide_eq_true_eq, wA, wB]
  constructor
  · rintro (⟨h1, h2⟩ | ⟨h1, h2⟩)
    · exact ⟨h1, by simp only [Nat.sub_zero] at h2; omega⟩
    · exact ⟨h1, by simp only [Nat.sub_self] at h2; omega⟩
  · rintro ⟨h1, h2⟩
    by_cases e : encV w h (outF f (w * h) 1) c < encV w h (outF f (w * h) 0) c
    · exact Or.inl ⟨h1, e⟩
    · exact Or.inr ⟨h1, by show encV w h (outF f (w * h) 0) c < _; omega⟩
/-- a wave cell by cell -/
theorem wvF_c {A B : Nat → Nat} {k : Int32} {f : Nat → Int32} : ∀ m, m ≤ 49 → ∀ c, c < 49 → wvF A B k f m c = if c < m ∧ A c ≠ B c then nI (3 + if B c < A c then 0 else 1) else f c
  | 0, _, c, _ => by rw [if_neg (by omega), wvF]
  | m + 1, hm, c, hc => by
    have ih := wvF_c (A := A) (B := B) (k := k) (f := f) m (by omega)
    rw [wvF, wvS]
    by_cases e : A m = B m
    · rw [if_pos e, ih c hc]
      by_cases e2 : c = m
      · subst e2; simp [e]
      · have : (c < m ∧ A c ≠ B c) ↔ (c < m + 1 ∧ A c ≠ B c) := by constructor <;> (rintro ⟨h1, h2⟩; exact ⟨by omega, h2⟩)
        simp only [this]
    · rw [if_neg e, wvC]
      have hp : (if B m < A m then 0 else 1) ≤ 1 := by split <;> omega
      by_cases e2 : c = m
      · subst e2
        rw [becF, va_up_ne _ _ (by omega), va_up_ne _ _ (by omega), va_up_self]
        exact (if_pos ⟨Nat.lt_succ_self c, e⟩).symm
      · rw [becF_at e2 (by omega) (by omega), va_up_ne _ _ (by omega), ih c hc]
        have : (c < m ∧ A c ≠ B c) ↔ (c < m + 1 ∧ A c ≠ B c) := by constructor <;> (rintro ⟨h1, h2⟩; exact ⟨by omega, h2⟩)
        simp only [this]
theorem wvF_q {A B : Nat → Nat} {k : Int32} {f : Nat → Int32} {q : Nat} (hq : q ≤ 1) : ∀ m, m ≤ 49 → wvF A B k f m (147 + q) = f (147 + q) + nI (ct (fun c => decide (A c ≠ B c ∧ (if B c < A c then 0 else 1) = q ∧ f c = nI (2 - q))) m)
  | 0, _ => by rw [wvF, ct, nI_0, Int32.add_zero]
  | m + 1, hm => by
    have ih := wvF_q (A := A) (B := B) (k := k) (f := f) hq m (by omega)
    have hcm := wvF_c (A := A) (B := B) (k := k) (f := f) m (by omega) m (by omega)
    rw [if_neg (by omega)] at hcm
    rw [wvF, wvS, ct]
    by_cases e : A m = B m
    · rw [if_pos e, ih]; simp [e]
    · rw [if_neg e, wvC, becF_at (by omega) (by omega) (by omega), hcm]
      by_cases e2 : (if B m < A m then 0 else 1) = q
      · rw [e2, va_up_self, ih, Int32.add_assoc]
        congr 1
        by_cases e3 : f m = nI (2 - q)
        · rw [if_pos e3, nI_add]; simp [e, e2, e3]
        · rw [if_neg e3, nI_0, Int32.add_zero]; simp [e3]
      · rw [va_up_ne _ _ (by omega), ih]; simp [e2]
/-- what a wave does to the stones that are counted -/
def capC (n : Nat) (x y : Int64) (f : Nat → Int32) : Nat → Int32 := va_up (va_up f 147 (f 147 + nI (ct (tb (x &&& psS n f 2)) 64))) 148 (f 148 + nI (ct (tb (y &&& psS n f 1)) 64))
theorem capC_O {a n : Nat} {x y : Int64} {f : Nat → Int32} : psO a (capC n x y f) = .inr (4, [.ref (a + 1), .int (f 147 + nI (ct (tb (x &&& psS n f 2)) 64)), .int (f 148 + nI (ct (tb (y &&& psS n f 1)) 64))]) := by simp [psO, capC, va_up]
theorem psS_cong {n : Nat} {f g : Nat → Int32} (h : ∀ i, i < n → f i = g i) : psS n f = psS n g := by
  funext k
  simp only [psS]
  have : ∀ (n : Nat), (∀ i, i < n → f i = g i) → bitsF (fun i => decide (f i = nI k)) n = bitsF (fun i => decide (g i = nI k)) n := by
    intro n
    induction n with
    | zero => intro _; rfl
    | succ n ih => intro h; rw [bitsF, bitsF, ih (fun i hi => h i (by omega)), h n (by omega)]
  rw [this n h]
theorem psU_cong {K : GK} {σ : GS} {a n : Nat} {f g : Nat → Int32} (h : ∀ i, i < n → f i = g i) (h1 : f 147 = g 147) (h2 : f 148 = g 148) : psU K σ a n f = psU K σ a n g := by
  rw [psU, psU, psS_cong h, psO, psO, h1, h2]
theorem va_upc {σ : GS} {a b : Nat} {x y : va_E} (h : a ≠ b) : va_up (va_up σ a x) b y = va_up (va_up σ b y) a x := by
  funext c
  by_cases e : c = b
  · subst e; rw [va_up_self, va_up_ne _ _ (Ne.symm h), va_up_self]
  · rw [va_up_ne _ _ e]
    by_cases e2 : c = a
    · subst e2; rw [va_up_self, va_up_self]
    · rw [va_up_ne _ _ e2, va_up_ne _ _ e2, va_up_ne _ _ e]
theorem psO_tur {a n s : Nat} {x : Int64} {f : Nat → Int32} (hn : n ≤ 49) : psO a (turF n x s f) = psO a f := by rw [psO, psO, turF, if_neg (by omega), turF, if_neg (by omega)]
theorem cap_end {K : GK} {w h k a : Nat} {σ : GS} {f : Nat → Int32} (hn : w * h ≤ 49) : va_up (va_up (va_up σ a (psO a (capC (w * h) (gnF w h f 0) (gnF w h f 1) f))) (a + 1) (lA K 6 (psS (w * h) (turF (w * h) (gnF w h f 0) 3 (capC (w * h) (gnF w h f 0) (gnF w h f 1) f))))) (a + 1) (lA K 6 (psS (w * h) (turF (w * h) (gnF w h f 1) 4 (turF (w * h) (gnF w h f 0) 3 (capC (w * h) (gnF w h f 0) (gnF w h f 1) f))))) = psU K σ a (w * h) (wst w h k f) := by
  rw [bx_uu, va_upc (by omega), ← psO_tur (x := gnF w h f 0) (s := 3) hn, ← psO_tur (x := gnF w h f 1) (s := 4) hn]
  show psU K σ a (w * h) _ = _
  have hct : ∀ (p s : Nat), p ≤ 1 → s ≤ 5 → s = 2 - p → ct (tb (gnF w h f p &&& psS (w * h) f s)) 64 = ct (fun c => decide (wA w h f c ≠ wB w h f c ∧ (if wB w h f c < wA w h f c then 0 else 1) = p ∧ f c = nI (2 - p))) (w * h) := by
    intro p s hp hs hsp
    rw [ct_64 (n := w * h) (by omega) (fun i hi => by rw [tb_and, Bool.and_eq_true] at hi; exact ((tb_gnF hn i).mp hi.1).1)]
    refine ct_cong fun c hc => ?_
    rw [Bool.eq_iff_iff, tb_and, Bool.and_eq_true, tb_gnF hn, psS_tb hs (by omega) hc, decide_eq_true_eq, decide_eq_true_eq, ← hsp, wA, wB]
    rcases Nat.le_one_iff_eq_zero_or_eq_one.mp hp with rfl | rfl
    · constructor
      · rintro ⟨⟨_, h1⟩, h2⟩
        have h1 : encV w h (outF f (w * h) 1) c < encV w h (outF f (w * h) 0) c := h1
        exact ⟨by omega, if_pos h1, h2⟩
      · rintro ⟨h0, h1, h2⟩
        refine ⟨⟨hc, ?_⟩, h2⟩
        by_cases e : encV w h (outF f (w * h) 1) c < encV w h (outF f (w * h) 0) c
        · exact e
        · rw [if_neg e] at h1; cases h1
    · constructor
      · rintro ⟨⟨_, h1⟩, h2⟩
        have h1 : encV w h (outF f (w * h) 0) c < encV w h (outF f (w * h) 1) c := h1
        exact ⟨by omega, if_neg (by omega), h2⟩
      · rintro ⟨h0, h1, h2⟩
        refine ⟨⟨hc, ?_⟩, h2⟩
        show encV w h (outF f (w * h) 0) c < encV w h (outF f (w * h) 1) c
        by_cases e : encV w h (outF f (w * h) 1) c < encV w h (outF f (w * h) 0) c
        · rw [if_pos e] at h1; cases h1
        · omega
  refine psU_cong (fun c hc => ?_) ?_ ?_
  · rw [wst, wvF_c _ hn c (by omega)]
    simp only [turF]
    have hA : tb (gnF w h f 0) c = true ↔ wB w h f c < wA w h f c := (tb_gnF hn c).trans ⟨fun z => z.2, fun z => ⟨hc, z⟩⟩
    have hB : tb (gnF w h f 1) c = true ↔ wA w h f c < wB w h f c := (tb_gnF hn c).trans ⟨fun z => z.2, fun z => ⟨hc, z⟩⟩
    have hf : capC (w * h) (gnF w h f 0) (gnF w h f 1) f c = f c := by rw [capC, va_up_ne _ _ (by omega), va_up_ne _ _ (by omega)]
    rw [hf]
    rcases Nat.lt_trichotomy (wA w h f c) (wB w h f c) with q | q | q
    · rw [if_pos ⟨hc, hB.mpr q⟩, if_pos ⟨hc, by omega⟩, if_neg (by omega)]
    · rw [if_neg (fun z => absurd (hB.mp z.2) (by omega)), if_neg (fun z => absurd (hA.mp z.2) (by omega)), if_neg (fun z => z.2 q)]
    · rw [if_neg (fun z => absurd (hB.mp z.2) (by omega)), if_pos ⟨hc, hA.mpr q⟩, if_pos ⟨hc, by omega⟩, if_pos q]
  · rw [wst, wvF_q (q := 0) (by omega) _ hn, turF, if_neg (by omega), turF, if_neg (by omega), capC, va_up_ne _ _ (by omega), va_up_self, hct 0 2 (by omega) (by omega) rfl]
  · rw [wst, wvF_q (q := 1) (by omega) _ hn, turF, if_neg (by omega), turF, if_neg (by omega), capC, va_up_self, hct 1 1 (by omega) (by omega) rfl]

set_option maxRecDepth 20000 in
theorem X_larger (K : GK) {σ : GS} {L : List Nat} {z : Nat} {b : Nat} {w h : Nat} (hbL : b ∈ L) (hsb : σ b = bdA w h) (hw1 : 4 ≤ w) (hw2 : w ≤ 7) (hh1 : 4 ≤ h) (hh2 : h ≤ 7) {s m t : Int64} (hm : ∀ i, tb m i = true → i < w * h) (ht : ∀ i, tb t i = true → i < w * h) (hsm : ∀ i, tb s i = true → tb m i = true) (hst : ∀ i, tb s i = true → tb t i = true) : gT K yX4_inLargerRegion cX4_inLargerRegion 12 (some .long) 1 [.ref b, .long s, .long m, .long t] z L (σ) (some (.long (lgF w h s m t (w * h)))) (σ) := by
  have hn : w * h ≤ 49 := Nat.mul_le_mul hw2 hh2
  have hn1 : 16 ≤ w * h := Nat.mul_le_mul hw1 hh1
  refine g_intro [some (.ref b), some (.long s), none, some (.long m), none, some (.long t), none, none, none, none, none, none] (fun Γ hC => ?_) (by simp [g_en, lv_args, Value.category])
  refine g_lconst (n := 1) (v := 0) hC (by decide) dX4_inLargerRegion_0 ?_
  refine g_lstore (n := 3) (ll1 := [some (.ref b), some (.long s), none, some (.long m), none, some (.long t), none, some (.long 0), none, none, none, none]) hC dX4_inLargerRegion_1 rfl ?_
  refine g_iconst (n := 4) (v := (nI 0)) hC (by decide) dX4_inLargerRegion_3 ?_
  refine g_istore (n := 6) (ll1 := [some (.ref b), some (.long s), none, some (.long m), none, some (.long t), none, some (.long 0), none, some (.int (nI 0)), none, none]) hC dX4_inLargerRegion_4 rfl ?_
  have lp6 : ∀ (n9 : Nat) (c : Nat) (hc : c ≤ w * h) (y7 : Int64) (ey7 : y7 = (lgF w h s m t c)) (y9 : Int32) (ey9 : y9 = (nI c)) (hm9 : w * h - c < n9), G K Γ (z, 0, 0, L) (σ) 6 [some (.ref b), some (.long s), none, some (.long m), none, some (.long t), none, some (.long y7), none, some (.int y9), none, none] [] := by
    intro n9
    induction n9 with
    | zero =>
      intro c hc y7 ey7 y9 ey9 hm9
      exact absurd hm9 (Nat.not_lt_zero _)
    | succ n9 ih6 =>
      intro c hc y7 ey7 y9 ey9 hm9
      subst ey7
      subst ey9
      refine g_lload_n (n := 7) hC rfl dX4_inLargerRegion_6 ?_
      refine g_lconst (n := 8) (v := 0) hC (by decide) dX4_inLargerRegion_7 ?_
      refine g_lcmp_eq (n := 12) (tgt := 66) hC dX4_inLargerRegion_8 dX4_inLargerRegion_9 (fun h8 => ?_) (fun h8 => ?_)
      ·
        refine g_lload (n := 68) hC rfl dX4_inLargerRegion_66 ?_
        exact g_lret hC dX4_inLargerRegion_68 (⟨rL (lg_z (by omega) h8), rfl, rfl, rfl⟩)
      ·
        refine g_iload (n := 14) hC rfl dX4_inLargerRegion_12 ?_
        refine g_aload_n (n := 15) hC rfl dX4_inLargerRegion_14 ?_
        refine g_getf (n := 18) (v := .int (nI (w * h))) hC gf_X4_60 (hbL) (hsb) rfl dX4_inLargerRegion_15 ?_
        refine g_icmp_geN (n := 21) (tgt := 66) hC (by omega) (by omega) dX4_inLargerRegion_18 (fun h18 => ?_) (fun h18 => ?_)
        ·
          refine g_lload (n := 68) hC rfl dX4_inLargerRegion_66 ?_
          exact g_lret hC dX4_inLargerRegion_68 (⟨rL (by rw [show c = w * h by omega]), rfl, rfl, rfl⟩)
        ·
          refine g_lload_n (n := 22) hC rfl dX4_inLargerRegion_21 ?_
          refine g_lconst (n := 23) (v := 1) hC (by decide) dX4_inLargerRegion_22 ?_
          refine g_iload (n := 25) hC rfl dX4_inLargerRegion_23 ?_
          refine g_lshlN (n := 26) hC (by omega) dX4_inLargerRegion_25 ?_
          refine g_land (n := 27) hC dX4_inLargerRegion_26 ?_
          refine g_lstore (n := 29) (ll1 := [some (.ref b), some (.long s), none, some (.long m), none, some (.long t), none, some (.long (lgF w h s m t c)), none, some (.int (nI c)), some (.long (s &&& (sl 1 c))), none]) hC dX4_inLargerRegion_27 rfl ?_
          refine g_aload_n (n := 30) hC rfl dX4_inLargerRegion_29 ?_
          refine g_lload (n := 32) hC rfl dX4_inLargerRegion_30 ?_
          refine g_lload_n (n := 33) hC rfl dX4_inLargerRegion_32 ?_
          refine g_cV (n := 36) hC gv_X4_63 (hbL) (hsb) (X_flood K hbL hsb hw1 hw2 hh1 hh2) dX4_inLargerRegion_33 ?_
          refine g_cS (n := 39) hC gs_X4_32 (X_bitCount K) dX4_inLargerRegion_36 ?_
          refine g_aload_n (n := 40) hC rfl dX4_inLargerRegion_39 ?_
          refine g_lload (n := 42) hC rfl dX4_inLargerRegion_40 ?_
          refine g_lload (n := 44) hC rfl dX4_inLargerRegion_42 ?_
          refine g_cV (n := 47) hC gv_X4_63 (hbL) (hsb) (X_flood K hbL hsb hw1 hw2 hh1 hh2) dX4_inLargerRegion_44 ?_
          refine g_cS (n := 50) hC gs_X4_32 (X_bitCount K) dX4_inLargerRegion_47 ?_
          refine g_icmp_leN (n := 53) (tgt := 60) hC ((Nat.lt_of_le_of_lt (ct_le _ _) (by decide))) ((Nat.lt_of_le_of_lt (ct_le _ _) (by decide))) dX4_inLargerRegion_50 (fun h50 => ?_) (fun h50 => ?_)
          ·
            refine g_iinc (n := 63) (ll1 := [some (.ref b), some (.long s), none, some (.long m), none, some (.long t), none, some (.long (lgF w h s m t c)), none, some (.int (nI (c + 1))), some (.long (s &&& (sl 1 c))), none]) hC dX4_inLargerRegion_60 rfl (nI_inc _) rfl ?_
            refine g_goto (n := 6) hC dX4_inLargerRegion_63 ?_
            exact G.le (ih6 (c + 1) (by omega) _ (lg_f (by omega) (by omega) h18 hm ht hsm hst h50) _ (by first | rfl | (simp [*]; done)) (by omega)) (And.intro rfl (And.intro rfl (And.intro rfl (And.intro rfl (And.intro rfl (And.intro rfl (trivial)))))))
          ·
            refine g_lload (n := 55) hC rfl dX4_inLargerRegion_53 ?_
            refine g_lload (n := 57) hC rfl dX4_inLargerRegion_55 ?_
            refine g_lor (n := 58) hC dX4_inLargerRegion_57 ?_
            refine g_lstore (n := 60) (ll1 := [some (.ref b), some (.long s), none, some (.long m), none, some (.long t), none, some (.long ((lgF w h s m t c) ||| (s &&& (sl 1 c)))), none, some (.int (nI c)), some (.long (s &&& (sl 1 c))), none]) hC dX4_inLargerRegion_58 rfl ?_
            refine g_iinc (n := 63) (ll1 := [some (.ref b), some (.long s), none, some (.long m), none, some (.long t), none, some (.long ((lgF w h s m t c) ||| (s &&& (sl 1 c)))), none, some (.int (nI (c + 1))), some (.long (s &&& (sl 1 c))), none]) hC dX4_inLargerRegion_60 rfl (nI_inc _) rfl ?_
            refine g_goto (n := 6) hC dX4_inLargerRegion_63 ?_
            exact G.le (ih6 (c + 1) (by omega) _ (lg_t (by omega) (by omega) h18 hm ht hsm hst h50) _ (by first | rfl | (simp [*]; done)) (by omega)) (And.intro rfl (And.intro rfl (And.intro rfl (And.intro rfl (And.intro rfl (And.intro rfl (trivial)))))))
  exact lp6 _ 0 (by omega) _ (lg_0 (by omega)) _ (by first | rfl | (simp [*]; done)) (Nat.lt_succ_self _)

set_option maxRecDepth 20000 in
set_option maxHeartbeats 1000000 in
theorem X_capture (K : GK) {σ : GS} {L : List Nat} {z : Nat} {b : Nat} {w h : Nat} (hbL : b ∈ L) (hsb : σ b = bdA w h) (hw1 : 4 ≤ w) (hw2 : w ≤ 7) (hh1 : 4 ≤ h) (hh2 : h ≤ 7) {a : Nat} {f : Nat → Int32} (haL : a ∈ L) (haL1 : a + 1 ∈ L) (hsa : σ a = psO a f) (hss : σ (a + 1) = lA K 6 (psS (w * h) f)) (k : Nat) : gT K yX4_capture cX4_capture 16 (some .long) 3 [.ref a, .ref b] z L (σ) (some (.long (chM w h f))) (psU K σ a (w * h) (wst w h k f)) := by
  have hn : w * h ≤ 49 := Nat.mul_le_mul hw2 hh2
  have hn1 : 16 ≤ w * h := Nat.mul_le_mul hw1 hh1
  have hn49 : w * h ≤ 49 := hn
  refine g_intro [some (.ref a), some (.ref b), none, none, none, none, none, none, none, none, none, none, none, none, none, none] (fun Γ hC => ?_) (by simp [g_en, lv_args, Value.category])
  refine g_aload_n (n := 1) hC rfl dX4_capture_0 ?_
  refine g_aload_n (n := 2) hC rfl dX4_capture_1 ?_
  refine g_iconst (n := 3) (v := (nI 0)) hC (by decide) dX4_capture_2 ?_
  refine g_cV (n := 6) hC gv_X4_56 (haL) (hsa) (X_open K hbL hsb hw1 hw2 hh1 hh2 haL haL1 hsa hss (p := 0) (by omega)) dX4_capture_3 ?_
  refine g_lstore_n (n := 7) (ll1 := [some (.ref a), some (.ref b), some (.long (outF f (w * h) 0)), none, none, none, none, none, none, none, none, none, none, none, none, none]) hC dX4_capture_6 rfl ?_
  refine g_aload_n (n := 8) hC rfl dX4_capture_7 ?_
  refine g_aload_n (n := 9) hC rfl dX4_capture_8 ?_
  refine g_iconst (n := 10) (v := (nI 1)) hC (by decide) dX4_capture_9 ?_
  refine g_cV (n := 13) hC gv_X4_56 (haL) (hsa) (X_open K hbL hsb hw1 hw2 hh1 hh2 haL haL1 hsa hss (p := 1) (by omega)) dX4_capture_10 ?_
  refine g_lstore (n := 15) (ll1 := [some (.ref a), some (.ref b), some (.long (outF f (w * h) 0)), none, some (.long (outF f (w * h) 1)), none, none, none, none, none, none, none, none, none, none, none]) hC dX4_capture_13 rfl ?_
  refine g_lload_n (n := 16) hC rfl dX4_capture_15 ?_
  refine g_aload_n (n := 17) hC rfl dX4_capture_16 ?_
  refine g_aload_n (n := 18) hC rfl dX4_capture_17 ?_
  refine g_getf (n := 21) (v := .long (edgF w h)) hC gf_X4_77 (hbL) (hsb) rfl dX4_capture_18 ?_
  refine g_lload_n (n := 22) hC rfl dX4_capture_21 ?_
  refine g_cV (n := 25) hC gv_X4_63 (hbL) (hsb) (X_flood K hbL hsb hw1 hw2 hh1 hh2) dX4_capture_22 ?_
  refine g_ldc2 (n := 28) hC gc_X4_54 dX4_capture_25 ?_
  refine g_lxor (n := 29) hC dX4_capture_28 ?_
  refine g_land (n := 30) hC dX4_capture_29 ?_
  refine G.eql (en_x (by omega) (by omega)) ?_
  refine g_lstore (n := 32) (ll1 := [some (.ref a), some (.ref b), some (.long (outF f (w * h) 0)), none, some (.long (outF f (w * h) 1)), none, some (.long (enF w h f 0)), none, none, none, none, none, none, none, none, none]) hC dX4_capture_30 rfl ?_
  refine g_lload (n := 34) hC rfl dX4_capture_32 ?_
  refine g_aload_n (n := 35) hC rfl dX4_capture_34 ?_
  refine g_aload_n (n := 36) hC rfl dX4_capture_35 ?_
  refine g_getf (n := 39) (v := .long (edgF w h)) hC gf_X4_77 (hbL) (hsb) rfl dX4_capture_36 ?_
  refine g_lload (n := 41) hC rfl dX4_capture_39 ?_
  refine g_cV (n := 44) hC gv_X4_63 (hbL) (hsb) (X_flood K hbL hsb hw1 hw2 hh1 hh2) dX4_capture_41 ?_
  refine g_ldc2 (n := 47) hC gc_X4_54 dX4_capture_44 ?_
  refine g_lxor (n := 48) hC dX4_capture_47 ?_
  refine g_land (n := 49) hC dX4_capture_48 ?_
  refine G.eql (en_x (by omega) (by omega)) ?_
  refine g_lstore (n := 51) (ll1 := [some (.ref a), some (.ref b), some (.long (outF f (w * h) 0)), none, some (.long (outF f (w * h) 1)), none, some (.long (enF w h f 0)), none, some (.long (enF w h f 1)), none, none, none, none, none, none, none]) hC dX4_capture_49 rfl ?_
  refine g_lload (n := 53) hC rfl dX4_capture_51 ?_
  refine g_lload (n := 55) hC rfl dX4_capture_53 ?_
  refine g_land (n := 56) hC dX4_capture_55 ?_
  refine g_lstore (n := 58) (ll1 := [some (.ref a), some (.ref b), some (.long (outF f (w * h) 0)), none, some (.long (outF f (w * h) 1)), none, some (.long (enF w h f 0)), none, some (.long (enF w h f 1)), none, some (.long ((enF w h f 0) &&& (enF w h f 1))), none, none, none, none, none]) hC dX4_capture_56 rfl ?_
  refine g_lload (n := 60) hC rfl dX4_capture_58 ?_
  refine g_lload (n := 62) hC rfl dX4_capture_60 ?_
  refine g_ldc2 (n := 65) hC gc_X4_54 dX4_capture_62 ?_
  refine g_lxor (n := 66) hC dX4_capture_65 ?_
  refine g_land (n := 67) hC dX4_capture_66 ?_
  refine g_aload_n (n := 68) hC rfl dX4_capture_67 ?_
  refine g_lload (n := 70) hC rfl dX4_capture_68 ?_
  refine g_lload_n (n := 71) hC rfl dX4_capture_70 ?_
  refine g_lload (n := 73) hC rfl dX4_capture_71 ?_
  refine g_cS (n := 76) hC gs_X4_80 (X_larger K hbL hsb hw1 hw2 hh1 hh2 (s := (enF w h f 0 &&& enF w h f 1)) (m := outF f (w * h) 0) (t := outF f (w * h) 1) (fun i hi => outF_lt (by omega) hi) (fun i hi => outF_lt (by omega) hi) (fun i hi => by rw [tb_and, Bool.and_eq_true] at hi; exact ((encV_ne (by omega) (by omega) (fun i hi => outF_lt (by omega) hi)).mp ((tb_enF (by omega) i).mp hi.1).2).1) (fun i hi => by rw [tb_and, Bool.and_eq_true] at hi; exact ((encV_ne (by omega) (by omega) (fun i hi => outF_lt (by omega) hi)).mp ((tb_enF (by omega) i).mp hi.2).2).1)) dX4_capture_73 ?_
  refine g_lor (n := 77) hC dX4_capture_76 ?_
  refine G.eql (gn_x (by omega) rfl (fun c => by rw [tb_and, Bool.and_eq_true])) ?_
  refine g_lstore (n := 79) (ll1 := [some (.ref a), some (.ref b), some (.long (outF f (w * h) 0)), none, some (.long (outF f (w * h) 1)), none, some (.long (enF w h f 0)), none, some (.long (enF w h f 1)), none, some (.long ((enF w h f 0) &&& (enF w h f 1))), none, some (.long (gnF w h f 0)), none, none, none]) hC dX4_capture_77 rfl ?_
  refine g_lload (n := 81) hC rfl dX4_capture_79 ?_
  refine g_lload (n := 83) hC rfl dX4_capture_81 ?_
  refine g_ldc2 (n := 86) hC gc_X4_54 dX4_capture_83 ?_
  refine g_lxor (n := 87) hC dX4_capture_86 ?_
  refine g_land (n := 88) hC dX4_capture_87 ?_
  refine g_aload_n (n := 89) hC rfl dX4_capture_88 ?_
  refine g_lload (n := 91) hC rfl dX4_capture_89 ?_
  refine g_lload (n := 93) hC rfl dX4_capture_91 ?_
  refine g_lload_n (n := 94) hC rfl dX4_capture_93 ?_
  refine g_cS (n := 97) hC gs_X4_80 (X_larger K hbL hsb hw1 hw2 hh1 hh2 (s := (enF w h f 0 &&& enF w h f 1)) (m := outF f (w * h) 1) (t := outF f (w * h) 0) (fun i hi => outF_lt (by omega) hi) (fun i hi => outF_lt (by omega) hi) (fun i hi => by rw [tb_and, Bool.and_eq_true] at hi; exact ((encV_ne (by omega) (by omega) (fun i hi => outF_lt (by omega) hi)).mp ((tb_enF (by omega) i).mp hi.2).2).1) (fun i hi => by rw [tb_and, Bool.and_eq_true] at hi; exact ((encV_ne (by omega) (by omega) (fun i hi => outF_lt (by omega) hi)).mp ((tb_enF (by omega) i).mp hi.1).2).1)) dX4_capture_94 ?_
  refine g_lor (n := 98) hC dX4_capture_97 ?_
  refine G.eql (gn_x (by omega) rfl (fun c => by rw [tb_and, Bool.and_eq_true, and_comm])) ?_
  refine g_lstore (n := 100) (ll1 := [some (.ref a), some (.ref b), some (.long (outF f (w * h) 0)), none, some (.long (outF f (w * h) 1)), none, some (.long (enF w h f 0)), none, some (.long (enF w h f 1)), none, some (.long ((enF w h f 0) &&& (enF w h f 1))), none, some (.long (gnF w h f 0)), none, some (.long (gnF w h f 1)), none]) hC dX4_capture_98 rfl ?_
  refine g_aload_n (n := 101) hC rfl dX4_capture_100 ?_
  refine g_dup (n := 102) hC rfl dX4_capture_101 ?_
  refine g_getf (n := 105) (v := .int (f 147)) hC gf_X4_15 (haL) (hsa) rfl dX4_capture_102 ?_
  refine g_lload (n := 107) hC rfl dX4_capture_105 ?_
  refine g_aload_n (n := 108) hC rfl dX4_capture_107 ?_
  refine g_getf (n := 111) (v := .ref (a + 1)) hC gf_X4_9 (haL) (hsa) rfl dX4_capture_108 ?_
  refine g_iconst (n := 112) (v := (nI 2)) hC (by decide) dX4_capture_111 ?_
  refine g_lald (n := 113) (j := 2) hC (haL1) (hss) (rfl) (by omega) (by omega) dX4_capture_112 ?_
  refine g_land (n := 114) hC dX4_capture_113 ?_
  refine g_cS (n := 117) hC gs_X4_32 (X_bitCount K) dX4_capture_114 ?_
  refine g_iadd (n := 118) hC dX4_capture_117 ?_
  refine g_putf (n := 121) hC gp_X4_15 (haL) (hsa) dX4_capture_118 ?_
  refine G.eqs (show _ = va_up (σ) a (.inr (4, [.ref (a + 1), .int ((f 147) + (nI (ct (tb ((gnF w h f 0) &&& ((psS (w * h) f) 2))) 64))), .int (f 148)])) from rfl) ?_
  refine g_aload_n (n := 122) hC rfl dX4_capture_121 ?_
  refine g_dup (n := 123) hC rfl dX4_capture_122 ?_
  refine g_getf (n := 126) (v := .int (f 148)) hC gf_X4_19 (haL) (va_up_self _ _ _) rfl dX4_capture_123 ?_
  refine g_lload (n := 128) hC rfl dX4_capture_126 ?_
  refine g_aload_n (n := 129) hC rfl dX4_capture_128 ?_
  refine g_getf (n := 132) (v := .ref (a + 1)) hC gf_X4_9 (haL) (va_up_self _ _ _) rfl dX4_capture_129 ?_
  refine g_iconst (n := 133) (v := (nI 1)) hC (by decide) dX4_capture_132 ?_
  refine g_lald (n := 134) (j := 1) hC (haL1) ((va_up_ne _ _ (by omega)).trans (hss)) (rfl) (by omega) (by omega) dX4_capture_133 ?_
  refine g_land (n := 135) hC dX4_capture_134 ?_
  refine g_cS (n := 138) hC gs_X4_32 (X_bitCount K) dX4_capture_135 ?_
  refine g_iadd (n := 139) hC dX4_capture_138 ?_
  refine g_putf (n := 142) hC gp_X4_19 (haL) (va_up_self _ _ _) dX4_capture_139 ?_
  refine G.eqs (show _ = va_up (σ) a (.inr (4, [.ref (a + 1), .int ((f 147) + (nI (ct (tb ((gnF w h f 0) &&& ((psS (w * h) f) 2))) 64))), .int ((f 148) + (nI (ct (tb ((gnF w h f 1) &&& ((psS (w * h) f) 1))) 64)))])) from bx_uu _ _ _ _) ?_
  refine g_aload_n (n := 143) hC rfl dX4_capture_142 ?_
  refine g_lload (n := 145) hC rfl dX4_capture_143 ?_
  refine g_iconst (n := 146) (v := (nI 3)) hC (by decide) dX4_capture_145 ?_
  refine G.eqs (show _ = va_up σ a (psO a (capC (w * h) (gnF w h f 0) (gnF w h f 1) f)) from by rw [capC_O]) ?_
  have hq1 : (va_up σ a (psO a (capC (w * h) (gnF w h f 0) (gnF w h f 1) f))) a = psO a (capC (w * h) (gnF w h f 0) (gnF w h f 1) f) := va_up_self _ _ _
  have hq2 : (va_up σ a (psO a (capC (w * h) (gnF w h f 0) (gnF w h f 1) f))) (a + 1) = lA K 6 (psS (w * h) (capC (w * h) (gnF w h f 0) (gnF w h f 1) f)) := by rw [va_up_ne _ _ (by omega), hss, psS_cong (g := (capC (w * h) (gnF w h f 0) (gnF w h f 1) f)) (fun i hi => by rw [capC, va_up_ne _ _ (by omega), va_up_ne _ _ (by omega)])]
  refine g_cVv (n := 149) hC gv_X4_73 (haL) (hq1) (X_turn K haL haL1 hq1 hq2 (by omega) (x := gnF w h f 0) (s := 3) (by omega) (fun i hi => ((tb_gnF (by omega) i).mp hi).1)) dX4_capture_146 ?_
  have hq3 : (va_up (va_up σ a (psO a (capC (w * h) (gnF w h f 0) (gnF w h f 1) f))) (a + 1) (lA K 6 (psS (w * h) (turF (w * h) (gnF w h f 0) 3 (capC (w * h) (gnF w h f 0) (gnF w h f 1) f))))) a = psO a (turF (w * h) (gnF w h f 0) 3 (capC (w * h) (gnF w h f 0) (gnF w h f 1) f)) := by rw [va_up_ne _ _ (by omega), va_up_self, psO, psO, turF, if_neg (by omega), turF, if_neg (by omega)]
  refine g_aload_n (n := 150) hC rfl dX4_capture_149 ?_
  refine g_lload (n := 152) hC rfl dX4_capture_150 ?_
  refine g_iconst (n := 153) (v := (nI 4)) hC (by decide) dX4_capture_152 ?_
  refine g_cVv (n := 156) hC gv_X4_73 (haL) (hq3) (X_turn K haL haL1 hq3 (va_up_self _ _ _) (by omega) (x := gnF w h f 1) (s := 4) (by omega) (fun i hi => ((tb_gnF (by omega) i).mp hi).1)) dX4_capture_153 ?_
  refine g_lload (n := 158) hC rfl dX4_capture_156 ?_
  refine g_lload (n := 160) hC rfl dX4_capture_158 ?_
  refine g_lor (n := 161) hC dX4_capture_160 ?_
  exact g_lret hC dX4_capture_161 (⟨rL (ch_x hn49), rfl, rfl, (cap_end hn49)⟩)
