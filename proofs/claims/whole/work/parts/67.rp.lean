/-! ===== the same report ===== -/
section RP
variable {w h pl : Nat} {D : Nat → RD} {ru x y : Int32} {ar : Nat → Nat → Int32}
theorem nI_m1 {j : Nat} (hj : j < 1000) : ¬ nI j = -1 := fun q => by
  have h9 : (nI j).toInt = -1 := by rw [q]; decide
  rw [nI_toInt (by omega)] at h9; omega
theorem lwv_tb {u : Nat → Int64} {q j : Nat} (hj : j < 1000) : ∀ k, k < 1000 → lwv u q k = nI j → tb (u j) q = true
  | 0, _, h => absurd h.symm (nI_m1 hj)
  | k + 1, hk, h => by
    rw [lwv] at h
    by_cases e : tb (u k) q = true
    · rw [if_pos e] at h
      rw [← (nI_eq (by omega) (by omega)).mp h]; exact e
    · rw [if_neg e] at h; exact lwv_tb hj k (by omega) h
/-- what the refusal says is what the reference notes of it -/
def rpC (rk : Nat) (cd dt sc : Nat → Int32) (ar : Nat → Nat → Int32) : Prop := sc 27 = nI rk ∧ rk ≤ 4 ∧ ∀ k, k < rk → cd k = ar 25 k ∧ dt k = ar 26 k
theorem tl_rp {K : GK} {σ σ2 σ0 σM : GS} {rf M who q : Nat} {cd dt sc : Nat → Int32} (hC : cplI w h ru x y pl D ar) (hq : q < w * h) (h1 : tlR K σ rf cd dt D (hisR ar pl) pl who q σ2) (h2 : rpP K M sc ar σ0 who q σM) : ∃ rk cd2 dt2 sc2 ar2, σ2 = rfU K σ rf rk cd2 dt2 ∧ σM = mdl K M sc2 ar2 σ0 ∧ rpC rk cd2 dt2 sc2 ar2 ∧ (∀ i, i ≠ 27 → sc2 i = sc i) ∧ ∀ j, j ≠ 25 → j ≠ 26 → ar2 j = ar j := by
  obtain ⟨e153, _, _, _, _, _, _, _, e9⟩ := hC.1 pl (Nat.le_refl _)
  obtain ⟨er, ew⟩ := e9 q hq
  have hI := hC.2.2.2.1
  rw [hisR_pl] at e153 er ew
  rw [tlR, hisR_pl] at h1
  rw [rpP] at h2
  have hpl := hC.2.1.1
  have hx : ∀ (A B : Nat → Int32), (va_up (va_up ar 25 A) 26 B) 25 = A := fun A B => by rw [va_up_ne _ _ (show (25 : Nat) ≠ 26 by decide), va_up_self]
  have hy : ∀ (A B : Nat → Int32), (va_up (va_up ar 25 A) 26 B) 26 = B := fun A B => va_up_self _ _ _
  rcases h1 with ⟨a1, a2⟩ | ⟨r9, wn, a0, a1, a2, a3, a4⟩
  · rcases h2 with ⟨b1, b2⟩ | ⟨sn, wm, b0, b1, b2, b3, b4⟩
    · refine ⟨3, _, _, _, _, a2, b2, ⟨va_up_self _ _ _, by omega, fun k hk => ?_⟩, fun i hi => va_up_ne _ _ hi, fun j j1 j2 => by rw [va_up_ne _ _ j2, va_up_ne _ _ j1]⟩
      rw [hx, hy, rp3C, rp3D, e153, er]
      rcases (show k = 0 ∨ k = 1 ∨ k = 2 by omega) with rfl | rfl | rfl <;> simp [va_up]
    · exact absurd ((b3.symm.trans ew).trans a1) (nI_m1 (by omega))
  · rcases h2 with ⟨b1, b2⟩ | ⟨sn, wm, b0, b1, b2, b3, b4⟩
    · exact absurd ((a3.symm.trans ew.symm).trans b1) (nI_m1 (by omega))
    · have es : sn = r9 := (nI_eq (by omega) (by omega)).mp ((b2.symm.trans er).trans a1)
      have em : wm = wn := (nI_eq (by omega) (by omega)).mp ((b3.symm.trans ew).trans a3)
      subst es
      subst em
      have et : tb ((D sn).2.2.1 wm) q = true := by
        rcases rtX_c D q pl with ⟨z1, z2⟩ | ⟨r8, z0, z1, z2⟩
        · exact absurd (a1.symm.trans z1) (nI_m1 (by omega))
        · have e8 : r8 = sn := (nI_eq (by omega) (by omega)).mp (z1.symm.trans a1)
          subst e8
          exact lwv_tb (by omega) 8 (by omega) (z2.symm.trans a3)
      have eu : (D sn).2.2.1 wm ≠ 0 := fun z => by rw [z, tb_0] at et; cases et
      obtain ⟨_, _, _, _, _, _, _, _, i8⟩ := hI sn a0
      have ewc := i8 wm a2 eu
      refine ⟨4, _, _, _, _, a4, b4, ⟨va_up_self _ _ _, by omega, fun k hk => ?_⟩, fun i hi => va_up_ne _ _ hi, fun j j1 j2 => by rw [va_up_ne _ _ j2, va_up_ne _ _ j1]⟩
      rw [hx, hy, rp3C, rp3D, e153, b3, ewc, b2]
      rcases (show k = 0 ∨ k = 1 ∨ k = 2 ∨ k = 3 by omega) with rfl | rfl | rfl | rfl <;> simp [va_up, nI_add]
end RP
