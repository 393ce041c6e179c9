/-! ===== constructors ===== -/
section OI
variable {K : GK} {Γ : GX} {cc : ByteArray} {nL d mc ms : Nat} {own mn : String} {rt : Option FieldType} {Po : GP} {ω : GO} {σ : GS} {pc n : Nat} {ll ll1 : List (Option Value)} {r : List Value}
theorem g_objI (hC : gC K Γ cc nL own mn d mc ms rt Po) {index a : Nat} (hl0 : Cond.methodLink own index objectInit ∈ gTs) (hd : decode cc pc = .ok (.invokespecial index, 3)) (kk : G K Γ ω σ n ll r) (hd1 : 1 ≤ d := by decide) (hcat : (r.map fun v => v.category).sum ≤ 8 := by exact Nat.le_of_ble_eq_true rfl) (hll : ll.length = nL := by rfl) (hn : n = pc + 3 := by rfl) : G K Γ ω σ pc ll (.ref a :: r) := by
  subst hn
  obtain ⟨l, D, cy⟩ := K
  obtain ⟨p, e, R, s, m, args, below, meth, c, A, H0, Q⟩ := Γ
  obtain ⟨z, k9, n9, L⟩ := ω
  obtain ⟨⟨hx, hb, hml, hown, hts⟩, hrt, hlk, ⟨hK, hEv⟩, hA, hR, hmn, hE⟩ := hC
  intro H locs ls hz hW hS hl
  refine W.objInit hx hb hown (hts _ hl0) (hts _ (gmem (i := 72) (by decide +kernel) (by decide +kernel))) (hts _ tw_28) rfl (by rw [hml]; exact hl.1.trans hll) rfl hd ?_ ?_ (kk H locs ls hz hW hS hl)
  · have := hR.1; exact Nat.le_trans hd1 this
  · have h1 : 64 * d ≤ R.locals := hR.2.1
    have h2 : (F0 m pc ls (Value.ref a :: r)).monitorRoom = 0 := rfl
    omega
end OI
/-- the addresses that are made from z on -/
def ladd (L : List Nat) (z : Nat) : Nat → List Nat
  | 0 => L
  | k + 1 => ladd L z k ++ [z + k]
theorem ladd_old {L : List Nat} {z a : Nat} (h : a ∈ L) : ∀ k, a ∈ ladd L z k
  | 0 => h
  | k + 1 => List.mem_append_left _ (ladd_old h k)
theorem ladd_new {L : List Nat} {z i : Nat} : ∀ k, i < k → z + i ∈ ladd L z k
  | 0, h => absurd h (Nat.not_lt_zero _)
  | k + 1, h => by
    by_cases e : i = k
    · rw [e]; exact List.mem_append_right _ (List.mem_singleton.mpr rfl)
    · exact List.mem_append_left _ (ladd_new k (by omega))
/-- an object at a and the cells that were made after it -/
def inW (a : Nat) (o : va_E) (m : Nat → va_E) (k : Nat) (σ0 : GS) : GS := fun b => if b = a then o else if a < b ∧ b ≤ a + k then m (b - a) else σ0 b
theorem inW_o {a k : Nat} {o : va_E} {m : Nat → va_E} {σ0 : GS} : inW a o m k σ0 a = o := if_pos rfl
theorem inW_m {a k j : Nat} {o : va_E} {m : Nat → va_E} {σ0 : GS} (h1 : 0 < j) (h2 : j ≤ k) : inW a o m k σ0 (a + j) = m j := by
  rw [inW, if_neg (by omega), if_pos (by omega), Nat.add_sub_cancel_left]
theorem inW_put {a k : Nat} {o o2 : va_E} {m : Nat → va_E} {σ0 : GS} : va_up (inW a o m k σ0) a o2 = inW a o2 m k σ0 := by
  funext b
  by_cases e : b = a
  · rw [e, va_up_self, inW_o]
  · rw [va_up_ne _ _ e, inW, inW, if_neg e, if_neg e]
theorem inW_new {a k : Nat} {o : va_E} {m : Nat → va_E} {σ0 : GS} {x : va_E} (hx : x = m (k + 1)) : va_up (inW a o m k σ0) (a + 1 + k) x = inW a o m (k + 1) σ0 := by
  funext b
  by_cases e : b = a + 1 + k
  · rw [e, va_up_self, inW, if_neg (by omega), if_pos (by omega), hx]
    congr 1
    omega
  · rw [va_up_ne _ _ e, inW, inW]
    by_cases e1 : b = a
    · rw [if_pos e1, if_pos e1]
    · rw [if_neg e1, if_neg e1]
      by_cases e2 : a < b ∧ b ≤ a + k
      · rw [if_pos e2, if_pos (by omega)]
      · rw [if_neg e2, if_neg (by omega)]
theorem inW_0 {a : Nat} {o : va_E} {m : Nat → va_E} {σ0 : GS} (h : σ0 a = o) : σ0 = inW a o m 0 σ0 := by
  funext b
  rw [inW]
  by_cases e : b = a
  · rw [if_pos e, e, h]
  · rw [if_neg e, if_neg (by omega)]
