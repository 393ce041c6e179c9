/-! ===== the same answers ===== -/
section AN
variable {w h pl : Nat} {D : Nat → RD} {ru x y : Int32} {ar : Nat → Nat → Int32} {g f : Nat → Int32} {io wc : Nat → Int32}
theorem ovl_g {n p : Nat} (h4 : g 0 = x ∧ g 1 = y) (hp : p ≤ 1) : ovl g n p f = ovl (bnO x y) n p f := by rw [ovl, ovl, scF_g h4 hp, scF_g h4 (by omega)]
theorem plU_g {p : Nat} {a b : Int32} (h4 : g 0 = x ∧ g 1 = y) : plU w h ru f g p a b = plU w h ru f (bnO x y) p a b := plV_g h4
theorem nrF_g {p : Nat} {ch : Int32} (h4 : g 0 = x ∧ g 1 = y) (hp : p ≤ 1) : nrF w h ru g p f ch = nrF w h ru (bnO x y) p f ch := by
  have e : (fun i => ovl g (w * h) p (plU w h ru f g p ch (chI i))) = (fun i => ovl (bnO x y) (w * h) p (plU w h ru f (bnO x y) p ch (chI i))) := funext fun i => by rw [plU_g h4, ovl_g h4 hp]
  rw [nrF, nrF, e]
theorem bnF_g {p : Nat} (h4 : g 0 = x ∧ g 1 = y) (hp : p ≤ 1) : bnF w h ru g p f = bnF w h ru (bnO x y) p f := by
  have e : (fun i => nrF w h ru g p f (chI i) (w * h + 1)) = (fun i => nrF w h ru (bnO x y) p f (chI i) (w * h + 1)) := funext fun i => by rw [nrF_g h4 hp]
  rw [bnF, bnF, e]
theorem frV_g {p : Nat} (h4 : g 0 = x ∧ g 1 = y) (hp : p ≤ 1) : frV w h ru g p f = frV w h ru (bnO x y) p f := by rw [frV, frV, ovl_g h4 hp, bnF_g h4 hp]
theorem frF_g {p : Nat} {ch : Int32} (h4 : g 0 = x ∧ g 1 = y) (hp : p ≤ 1) : frF w h ru g p f ch = frF w h ru (bnO x y) p f ch := by
  have e : (fun i => frV w h ru g p (plU w h ru f g p ch (chI i))) = (fun i => frV w h ru (bnO x y) p (plU w h ru f (bnO x y) p ch (chI i))) := funext fun i => by rw [plU_g h4, frV_g h4 hp]
  rw [frF, frF, e]
theorem gvF_g {p d : Nat} {ch : Int32} (h4 : g 0 = x ∧ g 1 = y) (hp : p ≤ 1) : gvF w h ru g p f ch d = gvF w h ru (bnO x y) p f ch d := by rw [gvF, gvF, nrF_g h4 hp, frF_g h4 hp]
theorem bs_g {p d : Nat} (h4 : g 0 = x ∧ g 1 = y) (hp : p ≤ 1) : ∀ c, bsM w h ru g p f d c = bsM w h ru (bnO x y) p f d c ∧ bsB w h ru g p f d c = bsB w h ru (bnO x y) p f d c
  | 0 => ⟨rfl, rfl⟩
  | c + 1 => by
    obtain ⟨h1, h2⟩ := bs_g (d := d) h4 hp c
    rw [bsM, bsM, bsB, bsB, h1, h2, gvF_g h4 hp]; exact ⟨rfl, rfl⟩
theorem ct_an (hC : cplI w h ru x y pl D ar) {k : Nat} : xct w h pl D (hisR ar pl pl) k = ctF (ar 5) w h k := by
  obtain ⟨h1, h2, h3, h4, h5, _⟩ := hC.1 pl (Nat.le_refl _)
  rw [hisR_pl] at h1 h4 h5
  rw [xct, ctF, hisR_pl, h1, h4, h5]
theorem py_an (hC : cplI w h ru x y pl D ar) {p k : Nat} (hp : p ≤ 1) : xpy w h pl D (hisR ar pl pl) (bnO x y) p k = pyF (ar 5) (ar 4) w h p k := by
  obtain ⟨h1, h2, h3, h4, h5, _⟩ := hC.1 pl (Nat.le_refl _)
  have h6 := hC.2.2.2.2.2
  rw [hisR_pl] at h2 h3
  have e4 : ar 4 p = bnO x y p := by
    rcases (show p = 0 ∨ p = 1 by omega) with rfl | rfl
    · exact h6.1
    · exact h6.2
  have e5 : ar 5 (149 + p) = nI (paX D p pl) := by
    rcases (show p = 0 ∨ p = 1 by omega) with rfl | rfl
    · exact h2
    · exact h3
  rw [xpy, pyF, hisR_pl, scF_g h6 hp, e4, e5]
theorem rd_an (hI : infI (w * h) pl D io wc) {r k : Nat} (hr : r < pl) (hk : k ≤ 6) : xrd (D r) k = io (7 * r + k) := by
  obtain ⟨i0, i1, i2, i3, i4, i5, i6, i7, i8⟩ := hI r hr
  rw [xrd]
  rcases (show k = 0 ∨ k = 1 ∨ k = 2 ∨ k = 3 ∨ k = 4 ∨ k = 5 ∨ k = 6 by omega) with rfl | rfl | rfl | rfl | rfl | rfl | rfl
  · rw [if_pos rfl]; exact i1.symm
  · rw [if_neg (by omega), if_pos rfl]; exact i2.symm
  · rw [if_neg (by omega), if_neg (by omega), if_pos rfl, i3, clN]
    by_cases q : (D r).1 0 = (D r).1 1 ∧ (D r).1 0 ≠ -1
    · rw [if_pos q, bI_t q]; rfl
    · rw [if_neg q, bI_f q]; rfl
  · rw [if_neg (by omega), if_neg (by omega), if_neg (by omega), if_pos rfl]; exact i4.symm
  · rw [if_neg (by omega), if_neg (by omega), if_neg (by omega), if_neg (by omega), if_pos rfl]; exact i5.symm
  · rw [if_neg (by omega), if_neg (by omega), if_neg (by omega), if_neg (by omega), if_neg (by omega), if_pos rfl]; exact i6.symm
  · rw [if_neg (by omega), if_neg (by omega), if_neg (by omega), if_neg (by omega), if_neg (by omega), if_neg (by omega)]; exact i7.symm
theorem wr_an (hI : infI (w * h) pl D io wc) : ∀ m i k, i + m = pl → xwr w D m i k = wrG io w m i k
  | 0, _, _, _ => rfl
  | m + 1, i, k, hi => by
    obtain ⟨i0, i1, i2, _⟩ := hI i (by omega)
    have e0 : io (7 * i + 0) = (D i).1 0 := i1
    have ih := wr_an hI m (i + 1) (k - (lnC ((D i).1 0) + lnC ((D i).1 1) + 1)) (by omega)
    rw [xwr, wrG, e0, i2, rsg]
    by_cases q1 : k < lnC ((D i).1 0)
    · rw [if_pos (by omega), if_pos q1, if_pos q1]
    · rw [if_neg q1, if_neg q1]
      by_cases q2 : k - lnC ((D i).1 0) < lnC ((D i).1 1)
      · rw [if_pos (by omega), if_pos q2, if_pos q2]
      · rw [if_neg q2, if_neg q2]
        by_cases q3 : k - lnC ((D i).1 0) - lnC ((D i).1 1) = 0
        · rw [if_pos (by omega), if_pos q3]
        · rw [if_neg (by omega), if_neg q3, ih, show k - lnC ((D i).1 0) - lnC ((D i).1 1) - 1 = k - (lnC ((D i).1 0) + lnC ((D i).1 1) + 1) by omega]
theorem abs_an {a b : Int32} (ha : smB a) (hb : smB b) : (if 0 ≤ a - b then a - b else 0 - (a - b)) = if b < a then a - b else b - a := by
  obtain ⟨a1, a2⟩ := ha
  obtain ⟨b1, b2⟩ := hb
  have e1 : (a - b).toInt = a.toInt - b.toInt := by rw [Int32.toInt_sub]; simp only [Int.bmod]; omega
  have e0 : (0 : Int32).toInt = 0 := rfl
  by_cases q : b < a
  · rw [if_pos q]
    rw [Int32.lt_iff_toInt_lt] at q
    rw [if_pos (by rw [Int32.le_iff_toInt_le, e1, e0]; omega)]
  · rw [if_neg q]
    rw [Int32.lt_iff_toInt_lt] at q
    by_cases q2 : 0 ≤ a - b
    · rw [if_pos q2]
      rw [Int32.le_iff_toInt_le, e1, e0] at q2
      rw [show a = b from Int32.toInt_inj.mp (by omega)]
    · rw [if_neg q2, Int32.zero_sub, Int32.neg_sub]
theorem tp_an (hbb : bnB (bnO x y)) (hI : infI (w * h) pl D io wc) : ∀ r, r < pl → (if 0 ≤ tpI io r - tpW io (x - y) r then tpI io r - tpW io (x - y) r else 0 - (tpI io r - tpW io (x - y) r)) = tpD io (x - y) r := fun r hr => by
  have hs : ∀ r, r < pl → smB (tpI io r) := fun r hr => by
    obtain ⟨⟨_, p, q, hp, hq, ep, eq⟩, i1, i2, i3, i4, i5, i6, i7, i8⟩ := hI r hr
    rw [tpI, i6, i7, ep, eq, smB, pk_sub_toInt (by omega) (by omega)]; omega
  have hw : smB (tpW io (x - y) r) := by
    cases r with
    | zero =>
      obtain ⟨a, b, ha, hb, ea, eb⟩ := hbb
      have ea' : x = nI a := ea
      have eb' : y = nI b := eb
      rw [tpW, ea', eb', smB, pk_sub_toInt (by omega) (by omega)]; omega
    | succ r => exact hs r (by omega)
  rw [abs_an (hs r hr) hw, tpD]
theorem hinf_an (hI : infI (w * h) pl D io wc) : ∀ r, r < pl → io (7 * r + 5) = (D r).1 2 ∧ io (7 * r + 6) = (D r).1 3 := fun r hr => by
  obtain ⟨i0, i1, i2, i3, i4, i5, i6, i7, i8⟩ := hI r hr
  exact ⟨i6, i7⟩
end AN
