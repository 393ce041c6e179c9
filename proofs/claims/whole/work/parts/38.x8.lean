theorem rgn_ne {w h : Nat} (hw : 1 ≤ w) (hn : w * h ≤ 64) {x : Int64} {c : Nat} (hx : ∀ i, tb x i = true → i < w * h) (hc : tb x c = true) : ¬ rgn w h x c = 0 := fun q => by
  have h1 := rgn_self hw hn hx hc
  rw [q, tb_0] at h1
  cases h1
theorem fld_at {w h : Nat} {x : Int64} {c : Nat} (hc : c < 64) : fld w h x (sl 1 c &&& x) = if tb x c = true then rgn w h x c else 0 := by
  cases e : tb x c
  · simp only [Bool.false_eq_true, if_false]; exact fld_out e
  · simp only [if_true]; exact fld_in e hc
theorem rg_flood {w h : Nat} (hw : 1 ≤ w) (hn : w * h ≤ 64) {x : Int64} (hx : ∀ i, tb x i = true → i < w * h) {c : Nat} (hc : c < 64) : fld w h (x &&& (rgY w h x c ^^^ (-1))) (sl 1 c &&& (x &&& (rgY w h x c ^^^ (-1)))) = if tb x c = true ∧ tb (rgY w h x c) c = false then rgn w h x c else 0 := by
  rw [fld_at hc]
  by_cases q : tb x c = true ∧ tb (rgY w h x c) c = false
  · rw [if_pos (tb_less.mpr q), if_pos q, rgn_less hw hn hx (rgY_clo hw hn hx c).2 q.1 q.2]
  · rw [if_neg (fun z => q (tb_less.mp z)), if_neg q]
