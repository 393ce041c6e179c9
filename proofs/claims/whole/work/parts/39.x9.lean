theorem rgM_ge {w h : Nat} (hw : 1 ≤ w) (hn : w * h ≤ 64) {x : Int64} (hx : ∀ i, tb x i = true → i < w * h) {d : Nat} (hd : tb x d = true) : ∀ c, tb (rgY w h x c) d = true → ct (tb (rgn w h x d)) 49 ≤ rgM w h x c
  | 0, hy => by rw [rgY, tb_0] at hy; cases hy
  | c + 1, hy => by
    by_cases q : tb x c = true ∧ tb (rgY w h x c) c = false
    · obtain ⟨k1, -, k3⟩ := rgY_pick q
      rw [k1, tb_or, Bool.or_eq_true] at hy
      rw [k3]
      rcases hy with hy | hy
      · exact Nat.le_trans (rgM_ge hw hn hx hd c hy) (Nat.le_max_left _ _)
      · rw [rgn_eq hw hn hx q.1 ((tb_rgn hw hn hx q.1 d).mp hy)]
        exact Nat.le_max_right _ _
    · obtain ⟨k1, -, k3⟩ := rgY_skip q
      rw [k1] at hy
      rw [k3]
      exact rgM_ge hw hn hx hd c hy
theorem rgM_s {w h : Nat} (hw : 1 ≤ w) (hn : w * h ≤ 49) {x : Int64} (hx : ∀ i, tb x i = true → i < w * h) {c : Nat} (hc : c < 64) : max (rgM w h x c) (ct (tb (fld w h x (sl 1 c &&& x))) 64) = rgM w h x (c + 1) := by
  rw [fld_at hc]
  by_cases q1 : tb x c = true
  · rw [if_pos q1, ct_64 (n := 49) (by omega) (fun i hi => by have := hx i (comp_in q1 ((tb_rgn hw (by omega) hx q1 i).mp hi)); omega)]
    by_cases q2 : tb (rgY w h x c) c = false
    · exact (rgY_pick ⟨q1, q2⟩).2.2.symm
    · rw [(rgY_skip (fun z => q2 z.2)).2.2]
      exact Nat.max_eq_left (rgM_ge hw (by omega) hx q1 c (by simpa using q2))
  · rw [if_neg q1, (rgY_skip (fun z => q1 z.1)).2.2, show ct (tb 0) 64 = 0 from by decide +kernel]
    exact Nat.max_eq_left (Nat.zero_le _)
theorem mx_nI {a b : Nat} (ha : a < 2 ^ 31) (hb : b < 2 ^ 31) : (if nI a < nI b then nI b else nI a) = nI (max a b) := by
  by_cases q : a < b
  · rw [if_pos (by rw [Int32.lt_iff_toInt_lt, nI_toInt ha, nI_toInt hb]; omega), Nat.max_eq_right (by omega)]
  · rw [if_neg (by rw [Int32.lt_iff_toInt_lt, nI_toInt ha, nI_toInt hb]; omega), Nat.max_eq_left (by omega)]
