section MJ
variable {K : GK} {Γ : GX} {cc : ByteArray} {nL d mc ms : Nat} {own mn : String} {rt : Option FieldType} {Po : GP} {ω : GO} {σ : GS} {pc n : Nat} {ll ll1 : List (Option Value)} {r : List Value}
theorem g_mmax (hC : gC K Γ cc nL own mn d mc ms rt Po) {index : Nat} {x y : Int32} (hl0 : Cond.methodLink own index Lib.Math.max.name ∈ gTs) (hd : decode cc pc = .ok (.invokestatic index, 3)) (kk : G K Γ ω σ n ll (.int (if x < y then y else x) :: r)) (hk9 : ω.2.1 ≤ mc := by exact Nat.zero_le _) (hn9 : ω.2.2.1 ≤ ms := by exact Nat.zero_le _) (hd1 : 1 ≤ d := by decide) (hcat : (r.map fun v => v.category).sum ≤ 8 := by exact Nat.le_of_ble_eq_true rfl) (hll : ll.length = nL := by rfl) (hn : n = pc + 3 := by rfl) : G K Γ ω σ pc ll (.int y :: .int x :: r) := by
  subst hn
  obtain ⟨l, D, cy⟩ := K
  obtain ⟨p, e, R, s, m, args, below, meth, c, A, H0, Q⟩ := Γ
  obtain ⟨z, k9, n9, L⟩ := ω
  obtain ⟨⟨hx, hb, hml, hown, hts⟩, hrt, hlk, ⟨hK, hEv⟩, hA, hR, hmn, hE⟩ := hC
  intro H locs ls hz hW hS hl
  have hr1 : 64 * d ≤ R.locals := hR.2.1
  exact va_mmax hx hb (by rw [hml]; exact (hl.1.trans hll).symm) hown (hts _ hl0) (hts _ (gmem (i := 715) (by decide +kernel) (by decide +kernel))) (hts _ (gmem (i := 64) (by decide +kernel) (by decide +kernel))) (hts _ (gmem (i := 716) (by decide +kernel) (by decide +kernel))) (Nat.le_trans hd1 hR.1) (by omega) (Nat.le_trans hk9 hR.2.2.1) (Nat.le_trans hn9 hR.2.2.2) hd (kk H locs ls hz hW hS hl)
theorem g_mmin (hC : gC K Γ cc nL own mn d mc ms rt Po) {index : Nat} {x y : Int32} (hl0 : Cond.methodLink own index Lib.Math.min.name ∈ gTs) (hd : decode cc pc = .ok (.invokestatic index, 3)) (kk : G K Γ ω σ n ll (.int (if y < x then y else x) :: r)) (hk9 : ω.2.1 ≤ mc := by exact Nat.zero_le _) (hn9 : ω.2.2.1 ≤ ms := by exact Nat.zero_le _) (hd1 : 1 ≤ d := by decide) (hcat : (r.map fun v => v.category).sum ≤ 8 := by exact Nat.le_of_ble_eq_true rfl) (hll : ll.length = nL := by rfl) (hn : n = pc + 3 := by rfl) : G K Γ ω σ pc ll (.int y :: .int x :: r) := by
  subst hn
  obtain ⟨l, D, cy⟩ := K
  obtain ⟨p, e, R, s, m, args, below, meth, c, A, H0, Q⟩ := Γ
  obtain ⟨z, k9, n9, L⟩ := ω
  obtain ⟨⟨hx, hb, hml, hown, hts⟩, hrt, hlk, ⟨hK, hEv⟩, hA, hR, hmn, hE⟩ := hC
  intro H locs ls hz hW hS hl
  have hr1 : 64 * d ≤ R.locals := hR.2.1
  exact va_mmin hx hb (by rw [hml]; exact (hl.1.trans hll).symm) hown (hts _ hl0) (hts _ (gmem (i := 855) (by decide +kernel) (by decide +kernel))) (hts _ (gmem (i := 64) (by decide +kernel) (by decide +kernel))) (hts _ (gmem (i := 856) (by decide +kernel) (by decide +kernel))) (Nat.le_trans hd1 hR.1) (by omega) (Nat.le_trans hk9 hR.2.2.1) (Nat.le_trans hn9 hR.2.2.2) hd (kk H locs ls hz hW hS hl)
theorem g_mabs (hC : gC K Γ cc nL own mn d mc ms rt Po) {index : Nat} {x : Int32} (hl0 : Cond.methodLink own index Lib.Math.abs.name ∈ gTs) (hd : decode cc pc = .ok (.invokestatic index, 3)) (kk : G K Γ ω σ n ll (.int (if 0 ≤ x then x else 0 - x) :: r)) (hk9 : ω.2.1 ≤ mc := by exact Nat.zero_le _) (hn9 : ω.2.2.1 ≤ ms := by exact Nat.zero_le _) (hd1 : 1 ≤ d := by decide) (hcat : (r.map fun v => v.category).sum ≤ 8 := by exact Nat.le_of_ble_eq_true rfl) (hll : ll.length = nL := by rfl) (hn : n = pc + 3 := by rfl) : G K Γ ω σ pc ll (.int x :: r) := by
  subst hn
  obtain ⟨l, D, cy⟩ := K
  obtain ⟨p, e, R, s, m, args, below, meth, c, A, H0, Q⟩ := Γ
  obtain ⟨z, k9, n9, L⟩ := ω
  obtain ⟨⟨hx, hb, hml, hown, hts⟩, hrt, hlk, ⟨hK, hEv⟩, hA, hR, hmn, hE⟩ := hC
  intro H locs ls hz hW hS hl
  have hr1 : 64 * d ≤ R.locals := hR.2.1
  exact va_mabs hx hb (by rw [hml]; exact (hl.1.trans hll).symm) hown (hts _ hl0) (hts _ (gmem (i := 819) (by decide +kernel) (by decide +kernel))) (hts _ (gmem (i := 64) (by decide +kernel) (by decide +kernel))) (hts _ (gmem (i := 820) (by decide +kernel) (by decide +kernel))) (Nat.le_trans hd1 hR.1) (by omega) (Nat.le_trans hk9 hR.2.2.1) (Nat.le_trans hn9 hR.2.2.2) hd (kk H locs ls hz hW hS hl)
end MJ
