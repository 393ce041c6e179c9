/-! ===== pure: rounds as a function, choices by number, looking ahead ===== -/
theorem wcn_ex (w h : Nat) (f : Nat → Int32) : ∃ W, wcn w h f W := by
  obtain ⟨k, h1, h2⟩ := pk_least (fun k => k = 8 ∨ wnm w h (wit w h f k) = 0) ⟨8, Or.inl rfl⟩
  refine ⟨k, ?_, fun j hj e => h2 j hj (Or.inr e), h1⟩
  rcases Nat.lt_or_ge 8 k with q | q
  · exact absurd (Or.inl rfl) (h2 8 q)
  · exact q
noncomputable def wC (w h : Nat) (f : Nat → Int32) : Nat := Classical.choose (wcn_ex w h f)
theorem wC_ok (w h : Nat) (f : Nat → Int32) : wcn w h f (wC w h f) := Classical.choose_spec (wcn_ex w h f)
noncomputable def plV (w h : Nat) (rule : Int32) (f g : Nat → Int32) (a b : Int32) : Nat → Int32 := plQ (wit w h (plM rule (w * h) f g a b) (wC w h (plM rule (w * h) f g a b))) a b (wC w h (plM rule (w * h) f g a b))
theorem plR_V {w h : Nat} {rule : Int32} {f g : Nat → Int32} {a b : Int32} {W : Nat} {f2 : Nat → Int32} (h1 : plR w h rule f g a b W f2) : W = wC w h (plM rule (w * h) f g a b) ∧ f2 = plV w h rule f g a b := by
  have e : W = wC w h (plM rule (w * h) f g a b) := wcn_one h1.1 (wC_ok _ _ _)
  refine ⟨e, ?_⟩
  rw [h1.2, e]
  rfl
/-- nothing changes from place 155 on -/
def hi155 (f g : Nat → Int32) : Prop := ∀ k, 155 ≤ k → g k = f k
theorem hi_rf {f : Nat → Int32} : hi155 f f := fun _ _ => rfl
theorem hi_tr {f g q : Nat → Int32} (h1 : hi155 f g) (h2 : hi155 g q) : hi155 f q := fun k hk => (h2 k hk).trans (h1 k hk)
theorem hi_up {f g : Nat → Int32} {i : Nat} {x : Int32} (h1 : hi155 f g) (hi : i < 155) : hi155 f (va_up g i x) := fun k hk => by rw [va_up_ne _ _ (by omega)]; exact h1 k hk
theorem hi_bec {f g : Nat → Int32} {c : Nat} {x y : Int32} (h1 : hi155 f g) (hc : c < 49) : hi155 f (becF g c x y) := hi_up (hi_up (hi_up h1 (by omega)) (by omega)) (by omega)
theorem hi_wvF {A B : Nat → Nat} {k : Int32} {f g : Nat → Int32} (h1 : hi155 f g) : ∀ n, n ≤ 49 → hi155 f (wvF A B k g n)
  | 0, _ => h1
  | n + 1, hn => by
    have h2 := hi_wvF (A := A) (B := B) (k := k) h1 n (by omega)
    rw [wvF, wvS]
    split
    · exact h2
    · refine hi_bec (hi_up h2 ?_) (by omega)
      split <;> omega
theorem hi_wit {w h : Nat} (hn : w * h ≤ 49) {f g : Nat → Int32} (h1 : hi155 f g) : ∀ k, hi155 f (wit w h g k)
  | 0 => h1
  | k + 1 => hi_wvF (hi_wit hn h1 k) _ hn
theorem hi_plP {n : Nat} (hn : n ≤ 49) {f g : Nat → Int32} {a x : Int32} (ha : chOK n a) (h1 : hi155 f g) : hi155 f (plP g a x) := by
  rw [plP]
  split
  · exact h1
  · next hne =>
    obtain ⟨j, hj, rfl⟩ := ha.resolve_left hne
    rw [nI_clamp (by omega)]
    exact hi_bec h1 (by omega)
theorem hi_plV {w h : Nat} (hn : w * h ≤ 49) {rule : Int32} {f g : Nat → Int32} {a b : Int32} (ha : chOK (w * h) a) (hb : chOK (w * h) b) : hi155 f (plV w h rule f g a b) := by
  refine hi_up (hi_up (hi_up (hi_wit hn (hi_up (hi_up (hi_up ?_ (by omega)) (by omega)) (by omega)) _) (by omega)) (by omega)) (by omega)
  rw [plC]
  split
  · next hc =>
    obtain ⟨j, hj, rfl⟩ := ha.resolve_left hc.2
    rw [nI_clamp (by omega)]
    split
    · exact hi_bec hi_rf (by omega)
    · split
      · exact hi_bec hi_rf (by omega)
      · exact hi_rf
  · exact hi_plP hn hb (hi_plP hn ha hi_rf)
def cpF (f g : Nat → Int32) (n : Nat) : Nat → Int32 := fun k => if k < n then f k else g k
theorem cpF_0 (f g : Nat → Int32) : cpF f g 0 = g := funext fun k => if_neg (by omega)
theorem cpF_s (f g : Nat → Int32) (c : Nat) : va_up (cpF f g c) c (f c) = cpF f g (c + 1) := by
  funext k
  by_cases e : k = c
  · subst e
    rw [va_up_self, cpF, if_pos (by omega)]
  · rw [va_up_ne _ _ e]
    simp only [cpF]
    by_cases h1 : k < c
    · rw [if_pos h1, if_pos (by omega)]
    · rw [if_neg h1, if_neg (by omega)]
theorem cpF_back {f g q : Nat → Int32} (h1 : hi155 f q) : cpF (cpF f g 155) q 155 = f := by
  funext k
  simp only [cpF]
  by_cases h2 : k < 155
  · rw [if_pos h2, if_pos h2]
  · rw [if_neg h2]
    exact h1 k (by omega)
/-- the choices by number: passing, then the cells -/
def chI (i : Nat) : Int32 := if i = 0 then -1 else nI (i - 1)
theorem chI_s (i : Nat) : chI (i + 1) = nI i := if_neg (by omega)
theorem chI_0 : chI 0 = -1 := rfl
theorem chI_inc (i : Nat) : chI i + Int32.ofInt 1 = chI (i + 1) := by
  rw [chI_s]
  cases i with
  | zero => decide
  | succ i => rw [chI_s]; exact nI_1 i
theorem chI_ge {n i : Nat} (hn : n ≤ 49) (hi : i ≤ n + 1) : nI n ≤ chI i ↔ i = n + 1 := by
  cases i with
  | zero =>
    rw [chI_0]
    constructor
    · intro h
      rw [Int32.le_iff_toInt_le, nI_toInt (by omega)] at h
      have : (-1 : Int32).toInt = -1 := by decide
      omega
    · omega
  | succ i => rw [chI_s, nI_leI (by omega) (by omega)]; omega
theorem chI_ok {n i : Nat} (hi : i ≤ n) : chOK n (chI i) := by
  cases i with
  | zero => exact Or.inl rfl
  | succ i => exact Or.inr ⟨i, by omega, chI_s i⟩
def mkA (p : Nat) (own other : Int32) : Int32 := if p = 0 then own else other
noncomputable def plU (w h : Nat) (rule : Int32) (f g : Nat → Int32) (p : Nat) (own other : Int32) : Nat → Int32 := plV w h rule f g (mkA p own other) (mkA p other own)
theorem mkA_ok {n p : Nat} {a b : Int32} (ha : chOK n a) (hb : chOK n b) : chOK n (mkA p a b) := by rw [mkA]; split <;> assumption
def ovl (g : Nat → Int32) (n p : Nat) (f : Nat → Int32) : Int32 := scF f g n p - scF f g n (1 - p)
def mnI (a b : Int32) : Int32 := if a < b then a else b
def mxI (a b : Int32) : Int32 := if b < a then a else b
/-- folds over the choices that f admits -/
def fol (f : Nat → Int32) (op : Int32 → Int32 → Int32) (v : Nat → Int32) (z : Int32) : Nat → Int32
  | 0 => z
  | i + 1 => if chI i = -1 ∨ f (chI i).toNatClampNeg = 0 then op (v i) (fol f op v z i) else fol f op v z i
noncomputable def nrF (w h : Nat) (rule : Int32) (g : Nat → Int32) (p : Nat) (f : Nat → Int32) (ch : Int32) : Nat → Int32 := fol f mnI (fun i => ovl g (w * h) p (plU w h rule f g p ch (chI i))) 2147483647
noncomputable def bnF (w h : Nat) (rule : Int32) (g : Nat → Int32) (p : Nat) (f : Nat → Int32) : Nat → Int32 := fol f mxI (fun i => nrF w h rule g p f (chI i) (w * h + 1)) (-2147483648)
noncomputable def frV (w h : Nat) (rule : Int32) (g : Nat → Int32) (p : Nat) (f2 : Nat → Int32) : Int32 := @ite _ (ovF f2 (w * h)) (Classical.propDecidable _) (ovl g (w * h) p f2) (bnF w h rule g p f2 (w * h + 1))
noncomputable def frF (w h : Nat) (rule : Int32) (g : Nat → Int32) (p : Nat) (f : Nat → Int32) (ch : Int32) : Nat → Int32 := fol f mnI (fun i => frV w h rule g p (plU w h rule f g p ch (chI i))) 2147483647
theorem fol_y {f : Nat → Int32} {op : Int32 → Int32 → Int32} {v : Nat → Int32} {z : Int32} {i : Nat} (h : mayF f (chI i)) : fol f op v z (i + 1) = op (v i) (fol f op v z i) := if_pos h
theorem fol_n {f : Nat → Int32} {op : Int32 → Int32 → Int32} {v : Nat → Int32} {z : Int32} {i : Nat} (h : ¬ mayF f (chI i)) : fol f op v z (i + 1) = fol f op v z i := if_neg h
/-- scratch rows of the reference: 6, 7, 20, 21 -/
def arX (ar : Nat → Nat → Int32) (v e cb f s : Nat → Int32) : Nat → Nat → Int32 := arS (va_up (va_up ar 6 f) 7 s) v e cb
section AX
variable {ar : Nat → Nat → Int32} {v e cb f s v2 e2 c2 f2 s2 : Nat → Int32}
theorem arX_eq {a b : Nat → Nat → Int32} (h5 : a 5 = b 5) (h6 : a 6 = b 6) (h7 : a 7 = b 7) (h20 : a 20 = b 20) (h21 : a 21 = b 21) (ho : ∀ i, i ≠ 5 → i ≠ 6 → i ≠ 7 → i ≠ 20 → i ≠ 21 → a i = b i) : a = b := by
  funext i
  by_cases h1 : i = 5
  · rw [h1]; exact h5
  by_cases h2 : i = 6
  · rw [h2]; exact h6
  by_cases h3 : i = 7
  · rw [h3]; exact h7
  by_cases h4 : i = 20
  · rw [h4]; exact h20
  by_cases h9 : i = 21
  · rw [h9]; exact h21
  exact ho i h1 h2 h3 h4 h9
theorem arX_o {i : Nat} (h1 : i ≠ 5) (h2 : i ≠ 6) (h3 : i ≠ 7) (h4 : i ≠ 20) (h5 : i ≠ 21) : arX ar v e cb f s i = ar i := by simp [arX, arS, va_up, h1, h2, h3, h4, h5]
theorem arX_id : ar = arX ar (ar 5) (ar 20) (ar 21) (ar 6) (ar 7) := arX_eq rfl rfl rfl rfl rfl (fun i h1 h2 h3 h4 h5 => (arX_o h1 h2 h3 h4 h5).symm)
theorem arX_S : arS (arX ar v e cb f s) v2 e2 c2 = arX ar v2 e2 c2 f s := by rw [arX, arS_arS, arX]
theorem arX_v : va_up (arX ar v e cb f s) 5 v2 = arX ar v2 e cb f s := by rw [arX, arS_v, arX]
theorem arX_f : va_up (arX ar v e cb f s) 6 f2 = arX ar v e cb f2 s := arX_eq rfl rfl rfl rfl rfl (fun i h1 h2 h3 h4 h5 => by rw [va_up_ne _ _ h2, arX_o h1 h2 h3 h4 h5, arX_o h1 h2 h3 h4 h5])
theorem arX_s : va_up (arX ar v e cb f s) 7 s2 = arX ar v e cb f s2 := arX_eq rfl rfl rfl rfl rfl (fun i h1 h2 h3 h4 h5 => by rw [va_up_ne _ _ h3, arX_o h1 h2 h3 h4 h5, arX_o h1 h2 h3 h4 h5])
theorem arX_X : arX (arX ar v e cb f s) v2 e2 c2 f2 s2 = arX ar v2 e2 c2 f2 s2 := arX_eq rfl rfl rfl rfl rfl (fun i h1 h2 h3 h4 h5 => by rw [arX_o h1 h2 h3 h4 h5, arX_o h1 h2 h3 h4 h5, arX_o h1 h2 h3 h4 h5])
end AX
theorem scS_id {sc : Nat → Int32} : sc = scS sc (sc 22) (sc 23) (sc 24) := by rw [scS, va_up_same, va_up_same, va_up_same]
