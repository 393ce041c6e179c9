/-! ===== System.arraycopy of a whole array of longs ===== -/
theorem copy_w : nativeFrameWords "java/lang/System" "arraycopy" 5 ≤ 40 := by decide +kernel
section AC
variable {K : GK} {Γ : GX} {cc : ByteArray} {nL d mc ms : Nat} {own mn : String} {rt : Option FieldType} {Po : GP} {ω : GO} {σ : GS} {pc n : Nat} {ll ll1 : List (Option Value)} {r : List Value}
theorem g_copyl (hC : gC K Γ cc nL own mn d mc ms rt Po) {index a0 a N : Nat} {f g : Nat → Int64} {v : Int32} (hl0 : Cond.methodLink own index arraycopyName ∈ gTs) (ha0 : a0 ∈ ω.2.2.2) (ha : a ∈ ω.2.2.2) (h0 : σ a0 = lA K N f) (h1 : σ a = lA K N g) (hN : N < 20000) (hv : v = nI N) (hd : decode cc pc = .ok (.invokestatic index, 3)) (kk : G K Γ ω (va_up σ a (lA K N (va_cpy f g 0 0 N))) n ll r) (hd1 : 1 ≤ d := by decide) (hcat : (r.map fun v => v.category).sum ≤ 8 := by exact Nat.le_of_ble_eq_true rfl) (hll : ll.length = nL := by rfl) (hn : n = pc + 3 := by rfl) : G K Γ ω σ pc ll (.int v :: .int (nI 0) :: .ref a :: .int (nI 0) :: .ref a0 :: r) := by
  subst hn
  subst hv
  obtain ⟨l, D, cy⟩ := K
  obtain ⟨p, e, R, s, m, args, below, meth, c, A, H0, Q⟩ := Γ
  obtain ⟨z, k9, n9, L⟩ := ω
  obtain ⟨⟨hx, hb, hml, hown, hts⟩, hrt, hlk, ⟨hK, hEv⟩, hA, hR, hmn, hE⟩ := hC
  intro H locs ls hz hW hS hl
  have w0 := hW.at ha0
  have w1 := hW.at ha
  rw [h0] at w0
  rw [h1] at w1
  have e0 : (nI 0).toNatClampNeg = 0 := nI_clamp (by omega)
  have eN : (nI N).toNatClampNeg = N := nI_clamp (by omega)
  have i0 : (nI 0).toInt = 0 := nI_toInt (by omega)
  have iN : (nI N).toInt = (N : Int) := nI_toInt (by omega)
  have n0 : ¬ nI 0 < 0 := fun q => by rw [Int32.lt_iff_toInt_lt, i0] at q; exact absurd q (by decide)
  have nN : ¬ nI N < 0 := fun q => by rw [Int32.lt_iff_toInt_lt, iN] at q; have h7 : (0 : Int32).toInt = 0 := by decide
                                      omega
  intro T hT X
  have hc0 : H[a0]? = some (arrV (cy 1) N (fun j => .long (f j))) := w0
  have hc1 : H[a]? = some (arrV (cy 1) N (fun j => .long (g j))) := w1
  obtain ⟨-, k0, hk0, cm0, hkk0⟩ := (hK.2 1 _ rfl).1 N (fun j => .long (f j))
  obtain ⟨-, k1, hk1, cm1, hkk1⟩ := (hK.2 1 _ rfl).1 N (fun j => .long (g j))
  have hr1 : 64 * d ≤ R.locals := hR.2.1
  have hcw := copy_w
  obtain ⟨vm', X', step⟩ := X.arraycopy hx hown (hts _ hl0) (hts _ (gmem (i := 318) (by decide +kernel) (by decide +kernel))) (hts _ (gmem (i := 317) (by decide +kernel) (by decide +kernel))) (hts _ (gmem (i := 63) (by decide +kernel) (by decide +kernel))) (src := a0) (dst := a) (srcPos := nI 0) (destPos := nI 0) (n := nI N) (by rw [hT]; exact hc0) (by rw [hT]; exact hc1) (fun _ h => by cases h) (fun _ h => by cases h) (fun h => by cases h) (fun h => by cases h) hk0 hk1 hkk0 hkk1 (by rfl) n0 n0 nN (by rw [i0, iN, arrV_size]; omega) (by rw [i0, iN, arrV_size]; omega) (fun vm₁ _ i hi => by
      rw [eN] at hi
      rw [e0]
      have e9 : (arrV (cy 1) N (fun j => Value.long (f j))).slots.getD (0 + i) .null = .long (f (0 + i)) := by
        rw [Array.getD_eq_getD_getElem?, arrV_read _ _ (by omega)]
        rfl
      rw [e9]
      exact ⟨by rfl, trivial⟩) (g := F0 m pc ls (.int (nI N) :: .int (nI 0) :: .ref a :: .int (nI 0) :: .ref a0 :: r)) rfl (by rw [hml]; exact hl.1.trans hll) (rest := r) rfl (by rw [hb]; exact hd) (Nat.le_trans hd1 hR.1) (by show 2 * 0 + _ + _ ≤ _; omega)
  have e1 : copied (arrV (cy 1) N (fun j => .long (f j))) (arrV (cy 1) N (fun j => .long (g j))) (nI 0) (nI 0) (nI N) = arrV (cy 1) N (fun j => .long (va_cpy f g 0 0 N j)) := by
    refine (va_copied (fun z => Value.long z) (cy 1) (cy 1) f g (show (nI 0).toNatClampNeg + (nI N).toNatClampNeg ≤ N by rw [e0, eN]; omega)).trans ?_
    rw [e0, eN]
  rw [e1] at X' step
  have hlt : a < H.size := hW.lt ha
  obtain ⟨t, a1, b1⟩ := kk (H.setIfInBounds a (arrV (cy 1) N (fun j => .long (va_cpy f g 0 0 N j)))) _ ls (by rw [Array.size_setIfInBounds]; exact hz) (hW.up ha (show (H.setIfInBounds a (arrV (cy 1) N (fun j => .long (va_cpy f g 0 0 N j))))[a]? = some (arrV (cy 1) N (fun j => .long (va_cpy f g 0 0 N j))) by simp [Array.getElem?_setIfInBounds, hlt]) (fun q hq => by simp [Array.getElem?_setIfInBounds, Ne.symm hq])) ⟨by simp; exact hS.1, fun q g1 g2 => by
      rw [show (H.setIfInBounds a _)[q]? = H[q]? by simp [Array.getElem?_setIfInBounds, (show a ≠ q from fun e7 => g2 (by rw [← e7]; exact hW.A ha))]]
      exact hS.2.1 q g1 g2, fun q hq => by
      rcases List.mem_append.mp hq with h | h
      · exact hS.2.2 q h
      · obtain ⟨z, -, hz⟩ := List.mem_map.mp h
        rw [← hz]
        exact hW.A ha⟩ hl _ (by rw [← hT]; rfl) X'
  exact ⟨t, step t a1, b1⟩
end AC
