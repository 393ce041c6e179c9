/-! ===== pure: enclosed regions, by taking regions off one by one ===== -/
theorem low_ex {x : Int64} (h : ¬ x = 0) : ∃ m, tb x m = true ∧ ∀ i, i < m → tb x i = false := by
  have h1 : ∃ m, tb x m = true := by
    by_cases q : ∃ m, tb x m = true
    · exact q
    · refine absurd (tb_ext fun i _ => ?_) h
      rw [tb_0]
      cases e : tb x i
      · rfl
      · exact absurd ⟨i, e⟩ q
  obtain ⟨k, h2, h3⟩ := pk_least (fun m => tb x m = true) h1
  exact ⟨k, h2, fun i hi => by simpa using h3 i hi⟩
noncomputable def encV (w h : Nat) (x : Int64) (c : Nat) : Nat := if tb x c = true ∧ rgn w h x c &&& edgF w h = 0 then ct (tb (rgn w h x c)) 49 else 0
noncomputable def encE (w h : Nat) (x y : Int64) : Nat → Nat := fun i => if tb y i = true then encV w h x i else 0
noncomputable def encF (w h : Nat) (x y r : Int64) (c : Nat) : Nat → Nat := fun i => if i < c then encE w h x (y ||| r) i else encE w h x y i
def encB (f : Nat → Int32) (V : Nat → Nat) (p : Nat) : Nat → Int32 := fun k => if 49 * p ≤ k ∧ k < 49 * p + 49 then nI (V (k - 49 * p)) else f k
def zrB (f : Nat → Int32) (p c : Nat) : Nat → Int32 := fun k => if 49 * p ≤ k ∧ k < 49 * p + c then nI 0 else f k
def enM (w h : Nat) (r : Int64) : Nat := if r &&& edgF w h = 0 then ct (tb r) 49 else 0
theorem zrB_0 (f : Nat → Int32) (p : Nat) : zrB f p 0 = f := funext fun k => if_neg (by omega)
theorem zrB_st (f : Nat → Int32) (p c : Nat) : va_up (zrB f p c) (49 * p + c) (nI 0) = zrB f p (c + 1) := by
  funext k
  by_cases h : k = 49 * p + c
  · subst h
    rw [va_up_self, zrB, if_pos (by omega)]
  · rw [va_up_ne _ _ h]
    simp only [zrB]
    by_cases h2 : 49 * p ≤ k ∧ k < 49 * p + c
    · rw [if_pos h2, if_pos (by omega)]
    · rw [if_neg h2, if_neg (by omega)]
theorem zrB_enc {f : Nat → Int32} {p : Nat} {w h : Nat} {x : Int64} : zrB f p 49 = encB f (encE w h x 0) p := by
  funext k
  simp only [zrB, encB, encE, tb_0]
  rfl
theorem encB_at {f : Nat → Int32} {V : Nat → Nat} {p c : Nat} (hc : c < 49) : encB f V p (49 * p + c) = nI (V c) := by
  rw [encB, if_pos (by omega), Nat.add_sub_cancel_left]
theorem encB_up {f : Nat → Int32} {V : Nat → Nat} {p c x : Nat} (hc : c < 49) : va_up (encB f V p) (49 * p + c) (nI x) = encB f (fun i => if i = c then x else V i) p := by
  funext k
  by_cases h : k = 49 * p + c
  · subst h
    rw [va_up_self, encB, if_pos (by omega), Nat.add_sub_cancel_left, if_pos rfl]
  · rw [va_up_ne _ _ h]
    simp only [encB]
    by_cases h2 : 49 * p ≤ k ∧ k < 49 * p + 49
    · rw [if_pos h2, if_pos h2, if_neg (by omega)]
    · rw [if_neg h2, if_neg h2]
theorem and_not0 (x : Int64) : x = x &&& (0 ^^^ (-1)) := by
  apply tb_ext
  intro i hi
  rw [tb_and, tb_not, tb_0]
  simp [hi]
theorem and_not2 (x y r : Int64) : (x &&& (y ^^^ (-1))) &&& (r ^^^ (-1)) = x &&& ((y ||| r) ^^^ (-1)) := by
  apply tb_ext
  intro i hi
  simp only [tb_and, tb_not, tb_or, hi, decide_true, Bool.true_and, Bool.not_or, Bool.and_assoc]
theorem tb_less {x y : Int64} {i : Nat} : tb (x &&& (y ^^^ (-1))) i = true ↔ tb x i = true ∧ tb y i = false := by
  rw [tb_and, tb_not, Bool.and_eq_true, Bool.and_eq_true, decide_eq_true_eq, Bool.not_eq_true']
  exact ⟨fun h => ⟨h.1, h.2.2⟩, fun h => ⟨h.1, tb_lt h.1, h.2⟩⟩
/-- whole components that have been taken off -/
def clo (w : Nat) (x y : Int64) : Prop := sub y x ∧ ∀ a b, tb x a = true → tb y a = false → nb w a b → tb x b = true → tb y b = false
theorem clo_0 {w : Nat} {x : Int64} : clo w x 0 := ⟨fun i h => absurd h (by rw [tb_0]; decide), fun _ b _ _ _ _ => tb_0 b⟩
section EN
variable {w h : Nat} {x y : Int64} {m : Nat}
theorem clo_or (hw : 1 ≤ w) (hn : w * h ≤ 64) (hx : ∀ i, tb x i = true → i < w * h) (hy : clo w x y) (hm : tb x m = true) : clo w x (y ||| rgn w h x m) := by
  refine ⟨fun i hi => ?_, fun a b h1 h2 h3 h4 => ?_⟩
  · rw [tb_or, Bool.or_eq_true] at hi
    rcases hi with hi | hi
    · exact hy.1 i hi
    · exact comp_in hm ((tb_rgn hw hn hx hm i).mp hi)
  · rw [tb_or, Bool.or_eq_false_iff] at h2 ⊢
    refine ⟨hy.2 a b h1 h2.1 h3 h4, ?_⟩
    cases e : tb (rgn w h x m) b
    · rfl
    · have h5 := (tb_rgn hw hn hx hm b).mp e
      have h6 := (tb_rgn hw hn hx hm a).mpr (comp_st h5 (nb_symm h3) h1)
      rw [h2.2] at h6
      cases h6
theorem rgn_self (hw : 1 ≤ w) (hn : w * h ≤ 64) (hx : ∀ i, tb x i = true → i < w * h) (hm : tb x m = true) : tb (rgn w h x m) m = true := (tb_rgn hw hn hx hm m).mpr comp_rf
theorem rgn_off (hw : 1 ≤ w) (hn : w * h ≤ 64) (hx : ∀ i, tb x i = true → i < w * h) (hy : clo w x y) (hm : tb x m = true) (hmy : tb y m = false) {i : Nat} (hi : tb (rgn w h x m) i = true) : tb y i = false :=
  (comp_less hy.2 hm hmy ((tb_rgn hw hn hx hm i).mp hi)).2
theorem clo_meas (hw : 1 ≤ w) (hn : w * h ≤ 64) (hx : ∀ i, tb x i = true → i < w * h) (hm : tb x m = true) (hmy : tb y m = false) : ct (tb y) (w * h) < ct (tb (y ||| rgn w h x m)) (w * h) :=
  ct_lt (fun k _ hk => by rw [tb_or, hk]; rfl) (hx m hm) hmy (by rw [tb_or, rgn_self hw hn hx hm, Bool.or_true])
theorem encF_0 {r : Int64} : encF w h x y r 0 = encE w h x y := funext fun i => if_neg (by omega)
theorem encF_t (hw : 1 ≤ w) (hn : w * h ≤ 64) (hx : ∀ i, tb x i = true → i < w * h) (hy : clo w x y) (hm : tb x m = true) (hmy : tb y m = false) {c : Nat} (hc : tb (rgn w h x m) c = true) : (fun i => if i = c then encE w h x y c + enM w h (rgn w h x m) else encF w h x y (rgn w h x m) c i) = encF w h x y (rgn w h x m) (c + 1) := by
  funext i
  by_cases e : i = c
  · subst e
    have h1 := rgn_off hw hn hx hy hm hmy hc
    have h2 : rgn w h x i = rgn w h x m := rgn_eq hw hn hx hm ((tb_rgn hw hn hx hm i).mp hc)
    have h3 := comp_in hm ((tb_rgn hw hn hx hm i).mp hc)
    rw [if_pos rfl, encF, if_pos (by omega), encE, encE, h1, tb_or, hc, Bool.or_true, if_pos rfl, if_neg (by decide), Nat.zero_add, encV, h2, enM]
    simp [h3]
  · rw [if_neg e]
    simp only [encF]
    by_cases h1 : i < c
    · rw [if_pos h1, if_pos (by omega)]
    · rw [if_neg h1, if_neg (by omega)]
theorem encF_f {r : Int64} {c : Nat} (hc : tb r c = false) : (fun i => if i = c then encE w h x y c + 0 else encF w h x y r c i) = encF w h x y r (c + 1) := by
  funext i
  by_cases e : i = c
  · subst e
    rw [if_pos rfl, encF, if_pos (by omega), encE, encE, tb_or, hc, Bool.or_false, Nat.add_zero]
  · rw [if_neg e]
    simp only [encF]
    by_cases h1 : i < c
    · rw [if_pos h1, if_pos (by omega)]
    · rw [if_neg h1, if_neg (by omega)]
theorem encF_n {r : Int64} (hx : ∀ i, tb x i = true → i < w * h) (hy : sub y x) (hr : sub r x) : encF w h x y r (w * h) = encE w h x (y ||| r) := by
  funext i
  simp only [encF]
  by_cases h1 : i < w * h
  · rw [if_pos h1]
  · rw [if_neg h1]
    have e1 : tb y i = false := by cases e : tb y i; rfl; exact absurd (hx i (hy i e)) h1
    have e2 : tb r i = false := by cases e : tb r i; rfl; exact absurd (hx i (hr i e)) h1
    simp [encE, tb_or, e1, e2]
theorem encE_x (h0 : x &&& (y ^^^ (-1)) = 0) : encE w h x y = encV w h x := by
  funext i
  simp only [encE]
  cases e : tb y i
  · have e2 : tb x i = false := by
      cases e2 : tb x i
      · rfl
      · have := (tb_less (x := x) (y := y) (i := i)).mpr ⟨e2, e⟩
        rw [h0, tb_0] at this
        cases this
    simp [encV, e2]
  · simp
end EN
theorem outF_lt {f : Nat → Int32} {n p : Nat} (hn : n ≤ 64) {i : Nat} (h : tb (outF f n p) i = true) : i < n := by
  simp only [outF, tb_and, Bool.and_eq_true, tb_all hn, decide_eq_true_eq] at h
  exact h.1.1.1
