/-! ===== pure: a flood ends, and is the cells that can be reached ===== -/
theorem sub_five {w h : Nat} {s : Int64} : sub s (five w h s) := fun i hi => by simp only [five, tb_or, hi, Bool.true_or]
theorem sub_stp {w h : Nat} {x s : Int64} (hs : sub s x) : sub s (stp w h x s) := fun i hi => by rw [stp, tb_and, sub_five i hi, hs i hi]; rfl
theorem stp_sub {w h : Nat} {x s : Int64} : sub (stp w h x s) x := fun i hi => by rw [stp, tb_and, Bool.and_eq_true] at hi; exact hi.2
theorem sub_eq {x y : Int64} (h1 : sub x y) (h2 : sub y x) : x = y := tb_ext fun i _ => by
  cases hx : tb x i <;> cases hy : tb y i <;> first | rfl | (have := h1 i hx; rw [hy] at this; cases this) | (have := h2 i hy; rw [hx] at this; cases this)
theorem itr_sub {w h : Nat} {x s : Int64} (hs : sub s x) : ∀ k, sub (itr (stp w h x) k s) x
  | 0 => hs
  | _ + 1 => stp_sub
theorem stp_grow {w h n : Nat} {x s : Int64} (hx : ∀ i, tb x i = true → i < n) (hs : sub s x) (hne : stp w h x s ≠ s) : ct (tb s) n < ct (tb (stp w h x s)) n := by
  obtain ⟨i, h1, h2⟩ : ∃ i, tb (stp w h x s) i = true ∧ tb s i = false := by
    by_cases q : ∃ i, tb (stp w h x s) i = true ∧ tb s i = false
    · exact q
    · refine absurd (sub_eq (fun i hi => ?_) (sub_stp hs)) hne
      cases e : tb s i
      · exact absurd ⟨i, hi, e⟩ q
      · rfl
  exact ct_lt (fun k _ hk => sub_stp hs k hk) (hx i (stp_sub i h1)) h2 h1
theorem itr_fixed {α : Type} {f : α → α} {a : α} {k : Nat} (h : f (itr f k a) = itr f k a) : ∀ m, k ≤ m → itr f m a = itr f k a
  | 0, hm => by rw [Nat.le_zero.mp hm]
  | m + 1, hm => by
    by_cases e : k = m + 1
    · rw [e]
    · rw [itr, itr_fixed h m (by omega), h]
theorem itr_fix_ex {w h n : Nat} {x s : Int64} (hx : ∀ i, tb x i = true → i < n) (hs : sub s x) : ∃ k, k ≤ n ∧ stp w h x (itr (stp w h x) k s) = itr (stp w h x) k s := by
  have key : ∀ m, (∃ k, k < m ∧ stp w h x (itr (stp w h x) k s) = itr (stp w h x) k s) ∨ m ≤ ct (tb (itr (stp w h x) m s)) n := by
    intro m
    induction m with
    | zero => exact Or.inr (Nat.zero_le _)
    | succ m ih =>
      rcases ih with ⟨k, hk, e⟩ | ih
      · exact Or.inl ⟨k, by omega, e⟩
      · by_cases e : stp w h x (itr (stp w h x) m s) = itr (stp w h x) m s
        · exact Or.inl ⟨m, by omega, e⟩
        · have := stp_grow hx (itr_sub hs m) e
          exact Or.inr (by rw [itr]; omega)
  rcases key (n + 1) with ⟨k, hk, e⟩ | h1
  · exact ⟨k, by omega, e⟩
  · have := ct_le (tb (itr (stp w h x) (n + 1) s)) n
    omega
theorem fld_fix {w h : Nat} {x s : Int64} (hx : ∀ i, tb x i = true → i < w * h) (hs : sub s x) : stp w h x (fld w h x s) = fld w h x s := by
  obtain ⟨k, hk, e⟩ := itr_fix_ex (h := h) hx hs
  rw [fld, itr_fixed e _ hk, e]
theorem fld_itr {w h : Nat} {x s : Int64} (hx : ∀ i, tb x i = true → i < w * h) (hs : sub s x) {k : Nat} (e : stp w h x (itr (stp w h x) k s) = itr (stp w h x) k s) : itr (stp w h x) k s = fld w h x s := by
  by_cases hk : k ≤ w * h
  · exact (itr_fixed e _ hk).symm
  · exact itr_fixed (fld_fix hx hs) k (by omega)
theorem itr_past {w h : Nat} {x s : Int64} (hx : ∀ i, tb x i = true → i < w * h) (hs : sub s x) {k : Nat} (hk : w * h ≤ k) : stp w h x (itr (stp w h x) k s) = itr (stp w h x) k s := by
  have e := itr_fixed (fld_fix hx hs) k hk
  rw [e]
  exact fld_fix hx hs
/-- what can be reached from c within x: in every closed set that has c -/
def comp (w : Nat) (x : Int64) (c d : Nat) : Prop := ∀ S : Nat → Prop, S c → (∀ a b, S a → nb w a b → tb x b = true → S b) → S d
theorem comp_rf {w : Nat} {x : Int64} {c : Nat} : comp w x c c := fun _ h _ => h
theorem comp_tr {w : Nat} {x : Int64} {a b c : Nat} (h1 : comp w x a b) (h2 : comp w x b c) : comp w x a c := fun S h h9 => h2 S (h1 S h h9) h9
theorem comp_st {w : Nat} {x : Int64} {a b c : Nat} (h1 : comp w x a b) (h2 : nb w b c) (h3 : tb x c = true) : comp w x a c := fun S h h9 => h9 b c (h1 S h h9) h2 h3
theorem comp_in {w : Nat} {x : Int64} {c d : Nat} (hc : tb x c = true) (h : comp w x c d) : tb x d = true := h (fun a => tb x a = true) hc (fun _ _ _ _ h => h)
theorem comp_sy {w : Nat} {x : Int64} {c d : Nat} (hc : tb x c = true) (h : comp w x c d) : comp w x d c := by
  refine (h (fun a => tb x a = true ∧ comp w x a c) ⟨hc, comp_rf⟩ (fun a b h1 h2 h3 => ⟨h3, ?_⟩)).2
  exact comp_tr (comp_st comp_rf (nb_symm h2) h1.1) h1.2
theorem tb_fld {w h : Nat} (hw : 1 ≤ w) (hn : w * h ≤ 64) {x s : Int64} (hx : ∀ i, tb x i = true → i < w * h) (hs : sub s x) (d : Nat) : tb (fld w h x s) d = true ↔ ∃ c, tb s c = true ∧ comp w x c d := by
  have hb : ∀ k j, tb (itr (stp w h x) k s) j = true → j < w * h := fun k j hj => hx j (itr_sub hs k j hj)
  constructor
  · have key : ∀ k d, tb (itr (stp w h x) k s) d = true → ∃ c, tb s c = true ∧ comp w x c d := by
      intro k
      induction k with
      | zero => exact fun d hd => ⟨d, hd, comp_rf⟩
      | succ k ih =>
        intro d hd
        rw [itr, stp, tb_and, Bool.and_eq_true] at hd
        rcases (tb_five hw hn (hb k) (hx d hd.2)).mp hd.1 with h1 | ⟨j, h1, h2⟩
        · exact ih d h1
        · obtain ⟨c, hc, hc2⟩ := ih j h1
          exact ⟨c, hc, comp_st hc2 h2 hd.2⟩
    exact key _ d
  · rintro ⟨c, hc, h1⟩
    have h0 : ∀ k, sub s (itr (stp w h x) k s) := by
      intro k
      induction k with
      | zero => exact fun _ h => h
      | succ k ih => exact fun i hi => sub_stp (itr_sub hs k) i (ih i hi)
    refine h1 (fun a => tb (fld w h x s) a = true) (h0 _ c hc) (fun a b ha h2 h3 => ?_)
    have h5 : tb (five w h (fld w h x s)) b = true := (tb_five hw hn (hb _) (hx b h3)).mpr (Or.inr ⟨a, ha, h2⟩)
    rw [← fld_fix hx hs, stp, tb_and, h3, h5]
    rfl
/-- the region of a cell -/
def rgn (w h : Nat) (x : Int64) (c : Nat) : Int64 := fld w h x (sl 1 c)
theorem sub_one {x : Int64} {c : Nat} (hc : tb x c = true) : sub (sl 1 c) x := fun i hi => by
  rw [tb_one, Bool.and_eq_true, decide_eq_true_eq, decide_eq_true_eq] at hi
  rw [hi.2]; exact hc
theorem tb_lt {x : Int64} {i : Nat} (h : tb x i = true) : i < 64 := by
  by_cases q : i < 64
  · exact q
  · rw [tb_big (by omega)] at h; cases h
theorem tb_rgn {w h : Nat} (hw : 1 ≤ w) (hn : w * h ≤ 64) {x : Int64} (hx : ∀ i, tb x i = true → i < w * h) {c : Nat} (hc : tb x c = true) (d : Nat) : tb (rgn w h x c) d = true ↔ comp w x c d := by
  rw [rgn, tb_fld hw hn hx (sub_one hc)]
  constructor
  · rintro ⟨e, he, h1⟩
    rw [tb_one, Bool.and_eq_true, decide_eq_true_eq, decide_eq_true_eq] at he
    rw [← he.2]; exact h1
  · exact fun h1 => ⟨c, by rw [tb_one]; simp [tb_lt hc], h1⟩
theorem rgn_eq {w h : Nat} (hw : 1 ≤ w) (hn : w * h ≤ 64) {x : Int64} (hx : ∀ i, tb x i = true → i < w * h) {c d : Nat} (hc : tb x c = true) (h1 : comp w x c d) : rgn w h x d = rgn w h x c := by
  have hd := comp_in hc h1
  refine sub_eq (fun i hi => ?_) (fun i hi => ?_)
  · exact (tb_rgn hw hn hx hc i).mpr (comp_tr h1 ((tb_rgn hw hn hx hd i).mp hi))
  · exact (tb_rgn hw hn hx hd i).mpr (comp_tr (comp_sy hc h1) ((tb_rgn hw hn hx hc i).mp hi))
/-- without whole components, the others stay -/
theorem comp_less {w : Nat} {x y : Int64} (hy : ∀ a b, tb x a = true → tb y a = false → nb w a b → tb x b = true → tb y b = false) {c d : Nat} (hc : tb x c = true) (hcy : tb y c = false) (h : comp w x c d) : comp w (x &&& (y ^^^ (-1))) c d ∧ tb y d = false := by
  refine h (fun a => comp w (x &&& (y ^^^ (-1))) c a ∧ tb y a = false) ⟨comp_rf, hcy⟩ (fun a b h1 h2 h3 => ?_)
  have ha : tb x a = true := by
    have h4 : comp w x c a := h1.1 (fun b => comp w x c b) comp_rf (fun a b q1 q2 q3 => comp_st q1 q2 (by rw [tb_and, Bool.and_eq_true] at q3; exact q3.1))
    exact comp_in hc h4
  have hb := hy a b ha h1.2 h2 h3
  exact ⟨comp_st h1.1 h2 (by rw [tb_and, tb_not, h3, hb]; simp [tb_lt h3]), hb⟩
theorem rgn_less {w h : Nat} (hw : 1 ≤ w) (hn : w * h ≤ 64) {x y : Int64} (hx : ∀ i, tb x i = true → i < w * h) (hy : ∀ a b, tb x a = true → tb y a = false → nb w a b → tb x b = true → tb y b = false) {c : Nat} (hc : tb x c = true) (hcy : tb y c = false) : rgn w h (x &&& (y ^^^ (-1))) c = rgn w h x c := by
  have hx2 : ∀ i, tb (x &&& (y ^^^ (-1))) i = true → i < w * h := fun i hi => hx i (by rw [tb_and, Bool.and_eq_true] at hi; exact hi.1)
  have hc2 : tb (x &&& (y ^^^ (-1))) c = true := by rw [tb_and, tb_not, hc, hcy]; simp [tb_lt hc]
  refine sub_eq (fun i hi => ?_) (fun i hi => ?_)
  · have h1 := (tb_rgn hw hn hx2 hc2 i).mp hi
    exact (tb_rgn hw hn hx hc i).mpr (h1 (fun b => comp w x c b) comp_rf (fun a b q1 q2 q3 => comp_st q1 q2 (by rw [tb_and, Bool.and_eq_true] at q3; exact q3.1)))
  · exact (tb_rgn hw hn hx2 hc2 i).mpr (comp_less hy hc hcy ((tb_rgn hw hn hx hc i).mp hi)).1
