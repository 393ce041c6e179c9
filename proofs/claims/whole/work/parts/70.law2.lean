theorem lc_23 : Cond.classLink RL 23 "java/lang/IndexOutOfBoundsException" ∈ gTs := gmem (i := 451) (by decide +kernel) (by decide +kernel)
theorem lc_13 : Cond.classLink RL 13 "java/lang/IllegalArgumentException" ∈ gTs := gmem (i := 328) (by decide +kernel) (by decide +kernel)
theorem lc_28 : Cond.classLink RL 28 "java/lang/IllegalStateException" ∈ gTs := gmem (i := 487) (by decide +kernel) (by decide +kernel)
theorem lc_30 : Cond.classLink RL 30 "java/lang/UnsupportedOperationException" ∈ gTs := gmem (i := 488) (by decide +kernel) (by decide +kernel)
theorem lc_52 : Cond.classLink RL 52 "java/util/NoSuchElementException" ∈ gTs := gmem (i := 720) (by decide +kernel) (by decide +kernel)
theorem gCat_1 {a b h k : Nat} {suf : List (Nat × Nat × Nat × Nat)} {pc : Nat} {E : String} (hc : a ≤ pc ∧ pc < b) (h0 : k ≠ 0) (hl : Cond.classLink RL k E ∈ gTs) (hk : Cond.castable E E ∈ lw_tbl) : gCat RL ((a, b, h, k) :: suf) pc E h :=
  ⟨[], ⟨a, b, h, k⟩, tableOf suf, E, rfl, fun y hy => absurd hy List.not_mem_nil, by simp [covers, hc.1, hc.2], h0, hl, hk, rfl⟩
theorem gCat_s {x : Nat × Nat × Nat × Nat} {suf : List (Nat × Nat × Nat × Nat)} {pc hp : Nat} {E nm : String} (h0 : x.2.2.2 ≠ 0) (hl : Cond.classLink RL x.2.2.2 nm ∈ gTs) (hn : (E, nm) ∈ ncL) (h : gCat RL suf pc E hp) : gCat RL (x :: suf) pc E hp := by
  obtain ⟨pre, y, sf, name, t1, t2, t3, t4, t5, t6, t7⟩ := h
  refine ⟨⟨x.1, x.2.1, x.2.2.1, x.2.2.2⟩ :: pre, y, sf, name, congrArg (List.cons _) t1, fun z hz => ?_, t3, t4, t5, t6, t7⟩
  rcases List.mem_cons.mp hz with rfl | hz
  · exact Or.inr ⟨h0, nm, hl, hn⟩
  · exact t2 z hz
theorem ck_IOB : Cond.castable "java/lang/IndexOutOfBoundsException" "java/lang/IndexOutOfBoundsException" ∈ lw_tbl := List.mem_of_getElem? (i := 461) (by decide +kernel)
theorem ck_IAE : Cond.castable "java/lang/IllegalArgumentException" "java/lang/IllegalArgumentException" ∈ lw_tbl := List.mem_of_getElem? (i := 335) (by decide +kernel)
theorem ck_ISE : Cond.castable "java/lang/IllegalStateException" "java/lang/IllegalStateException" ∈ lw_tbl := List.mem_of_getElem? (i := 504) (by decide +kernel)
theorem ck_UOE : Cond.castable "java/lang/UnsupportedOperationException" "java/lang/UnsupportedOperationException" ∈ lw_tbl := List.mem_of_getElem? (i := 564) (by decide +kernel)
theorem ck_NSE : Cond.castable "java/util/NoSuchElementException" "java/util/NoSuchElementException" ∈ lw_tbl := List.mem_of_getElem? (i := 730) (by decide +kernel)
