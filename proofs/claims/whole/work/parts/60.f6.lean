/-! ===== rounds one after another ===== -/
noncomputable def s1F (w h : Nat) (ru x y : Int32) (f : Nat → Int32) (a b : Int32) : Nat → Int32 := plV w h ru f (bnO x y) a b
noncomputable def s1D (w h : Nat) (ru x y : Int32) (pl : Nat) (D : Nat → RD) (rows : Nat → Nat → Int32) (a b : Int32) : Nat → RD := va_up D pl (rdOf (w * h) (scC a b (scF (plV w h ru (rows pl) (bnO x y) a b) (bnO x y) (w * h) 0) (scF (plV w h ru (rows pl) (bnO x y) a b) (bnO x y) (w * h) 1) (D pl).1) (mkX a b (stK ru (ldF (rows pl) (w * h) x y))) (wvU w h (plM ru (w * h) (rows pl) (bnO x y) a b) (goW w h ru (rows pl) (bnO x y) a b)) (plV w h ru (rows pl) (bnO x y) a b))
noncomputable def s1R (w h : Nat) (ru x y : Int32) (pl : Nat) (rows : Nat → Nat → Int32) (a b : Int32) : Nat → Nat → Int32 := va_up rows (pl + 1) (plV w h ru (rows pl) (bnO x y) a b)
theorem s1_gm {K : GK} {L : List Nat} {σ σ1 : GS} {g b w h : Nat} {ru : Int32} {pl : Nat} {x y : Int32} {D : Nat → RD} {rows : Nat → Nat → Int32} {a9 b9 : Int32} (hG : gmI K L σ g b ru pl x y D) (hpl : pl < 60)
    (e : σ1 = rdU K (va_up σ g (gmO g b ru (pl + 1) x y)) (g + 5 + 4 * pl) (w * h) (scC a9 b9 (scF (plV w h ru (rows pl) (bnO x y) a9 b9) (bnO x y) (w * h) 0) (scF (plV w h ru (rows pl) (bnO x y) a9 b9) (bnO x y) (w * h) 1) (D pl).1) (mkX a9 b9 (stK ru (ldF (rows pl) (w * h) x y))) (wvU w h (plM ru (w * h) (rows pl) (bnO x y) a9 b9) (goW w h ru (rows pl) (bnO x y) a9 b9)) (plV w h ru (rows pl) (bnO x y) a9 b9)) :
    gmI K L σ1 g b ru (pl + 1) x y (s1D w h ru x y pl D rows a9 b9) ∧ ∀ a, (a < g ∨ a = g + 1 ∨ g + 245 ≤ a) → σ1 a = σ a := by
  subst e
  refine ⟨gm_set hG hpl (rdI_D (rdU_I (hG.2.2.2.2.2 pl hpl).1)) (fun a h1 h2 => by rw [rdU_o (by omega), va_up_ne _ _ h2]) (by rw [rdU_o (by omega), va_up_self]) hG.1.2.2.2.2, fun a ha => by rw [rdU_o (by omega), va_up_ne _ _ (by omega)]⟩
theorem s1_T {w h : Nat} {ru : Int32} {pl : Nat} {x y : Int32} {D : Nat → RD} {rows : Nat → Nat → Int32} {a9 b9 : Int32} (hT : gmT D) : gmT (s1D w h ru x y pl D rows a9 b9) := fun r hr => by
  by_cases e : r = pl
  · subst e; rw [s1D, va_up_self]; exact ⟨psS_6, wvU_t (wC_ok w h _).1⟩
  · rw [s1D, va_up_ne _ _ e]; exact hT r hr
noncomputable def sq (w h : Nat) (ru x y : Int32) (A B : Nat → Int32) (pl : Nat) (D : Nat → RD) (rows : Nat → Nat → Int32) : Nat → (Nat → RD) × (Nat → Nat → Int32)
  | 0 => (D, rows)
  | j + 1 => (s1D w h ru x y (pl + j) (sq w h ru x y A B pl D rows j).1 (sq w h ru x y A B pl D rows j).2 (A j) (B j), s1R w h ru x y (pl + j) (sq w h ru x y A B pl D rows j).2 (A j) (B j))
/-- the i-th of the rounds can be played behind those before it -/
def okX (w h : Nat) (ru x y : Int32) (A B : Nat → Int32) (pl : Nat) (D : Nat → RD) (rows : Nat → Nat → Int32) (i : Nat) : Prop := ¬ endP (pl + i) (w * h) (sq w h ru x y A B pl D rows i).1 (sq w h ru x y A B pl D rows i).2 ∧ mayF ((sq w h ru x y A B pl D rows i).2 (pl + i)) (A i) ∧ mayF ((sq w h ru x y A B pl D rows i).2 (pl + i)) (B i)
theorem end_60 {pl n : Nat} {D : Nat → RD} {rows : Nat → Nat → Int32} (h : ¬ endP pl n D rows) : pl < 60 := by
  rcases Nat.lt_or_ge pl 60 with q | q
  · exact q
  · exact absurd ⟨by omega, Or.inr (Or.inr q)⟩ h
theorem sq_ok {w h : Nat} {ru x y : Int32} {A B : Nat → Int32} {pl : Nat} {D : Nat → RD} {rows : Nat → Nat → Int32} {m : Nat} (hn : w * h ≤ 49) (hP : gmP (w * h) pl D rows) (hT : gmT D) (hst : stA (w * h) (rows pl)) (hcp : cpB (rows pl) m) : ∀ i, (∀ j, j < i → chOK (w * h) (A j) ∧ chOK (w * h) (B j)) → (∀ j, j < i → okX w h ru x y A B pl D rows j) → gmP (w * h) (pl + i) (sq w h ru x y A B pl D rows i).1 (sq w h ru x y A B pl D rows i).2 ∧ gmT (sq w h ru x y A B pl D rows i).1 ∧ stA (w * h) ((sq w h ru x y A B pl D rows i).2 (pl + i)) ∧ cpB ((sq w h ru x y A B pl D rows i).2 (pl + i)) (m + 392 * i)
  | 0, _, _ => ⟨hP, hT, hst, hcp⟩
  | i + 1, hc, ho => by
    obtain ⟨h1, h2, h3, h4⟩ := sq_ok hn hP hT hst hcp i (fun j hj => hc j (by omega)) (fun j hj => ho j (by omega))
    have h60 := end_60 (ho i (by omega)).1
    have hci := hc i (by omega)
    have e : (sq w h ru x y A B pl D rows (i + 1)).2 (pl + (i + 1)) = plV w h ru ((sq w h ru x y A B pl D rows i).2 (pl + i)) (bnO x y) (A i) (B i) := va_up_self _ _ _
    refine ⟨gmP_add h1 h60, s1_T h2, ?_, ?_⟩
    · rw [e]; exact plV_st hn hci.1 hci.2 h3
    · rw [e]; rw [Nat.mul_succ, ← Nat.add_assoc]; exact cp_plV hn hci.1 hci.2 h4
def rrS (K : GK) (L : List Nat) (σ0 σ2 : GS) (g b w h : Nat) (ru x y : Int32) (A B : Nat → Int32) (pl : Nat) (D : Nat → RD) (rows : Nat → Nat → Int32) (i : Nat) : Prop := gmI K L σ2 g b ru (pl + i) x y (sq w h ru x y A B pl D rows i).1 ∧ ∀ a, (a < g ∨ a = g + 1 ∨ g + 245 ≤ a) → σ2 a = σ0 a
/-- the text is read whole as n rounds -/
def txN (w h : Nat) (tx : Nat → Int32) (tn n : Nat) : Prop := txI w h tx tn n = tn ∧ ∀ j, j < n → rdO w h tx tn (txI w h tx tn j)
theorem chV_gt {w h : Nat} {tx : Nat → Int32} {tn t : Nat} (q : ¬ (chV w h tx tn t).1 = -2) : t + 1 ≤ (chV w h tx tn t).2 := by
  by_cases q1 : hereP tx tn t 45 45
  · rw [chV_1 q1]; exact Nat.le_refl _
  · by_cases q2 : hereP tx tn t 97 (97 + w - 1)
    · by_cases q3 : hereP tx tn (t + 1) 49 (48 + h)
      · rw [chV_4 q1 q2 q3]; exact Nat.le_succ _
      · rw [chV_3 q1 q2 q3] at q; exact absurd rfl q
    · rw [chV_2 q1 q2] at q; exact absurd rfl q
theorem rdT_3 {w h : Nat} {tx : Nat → Int32} {tn t : Nat} (ho : rdO w h tx tn t) : t + 3 ≤ rdT w h tx tn t := by
  have h1 := chV_gt ho.1
  have h2 := chV_gt ho.2.1
  rw [rdT, if_neg ho.1, if_neg ho.2.1, iteP_t ho.2.2, rdE]
  omega
theorem txI_3 {w h : Nat} {tx : Nat → Int32} {tn : Nat} : ∀ n, (∀ j, j < n → rdO w h tx tn (txI w h tx tn j)) → 3 * n ≤ txI w h tx tn n
  | 0, _ => Nat.zero_le _
  | n + 1, hr => by
    have h1 := txI_3 n (fun j hj => hr j (by omega))
    have h2 := rdT_3 (hr n (by omega))
    rw [txI]; omega
theorem pr_n {w h : Nat} {tx : Nat → Int32} {tn cr : Nat} {x : Int32} {g : Nat → Int32} (hw : 1 ≤ w) (hw7 : w ≤ 7) (hh7 : h ≤ 7) (htn : tn ≤ 80) (hp : prR w h tx tn x cr g) (hx : x = -1) : ∃ n, txN w h tx tn n ∧ n ≤ 26 ∧ cr = 2 * n ∧ (∀ j, j < n → g (2 * j) = txA w h tx tn j ∧ g (2 * j + 1) = txB w h tx tn j) ∧ ∀ j, j < n → chOK (w * h) (txA w h tx tn j) ∧ chOK (w * h) (txB w h tx tn j) := by
  rcases hp with ⟨_, n, h1, h2, h3, h4⟩ | ⟨i, t, h1, h2, h3⟩
  · have h5 := txI_3 n h2
    exact ⟨n, ⟨h1, h2⟩, by omega, h3, h4, fun j hj => ⟨(chV_ok hw hw7 hh7).resolve_right (h2 j hj).1, (chV_ok hw hw7 hh7).resolve_right (h2 j hj).2.1⟩⟩
  · have h9 : (nI t).toInt = -1 := by rw [h2.symm.trans hx]; decide
    rw [nI_toInt (by omega)] at h9; omega
theorem pr_e {w h : Nat} {tx : Nat → Int32} {tn cr : Nat} {x : Int32} {g : Nat → Int32} (hp : prR w h tx tn x cr g) (hx : ¬ x = -1) : ∃ i t, t ≤ tn ∧ x = nI t ∧ errT w h tx tn i t := hp.resolve_left (fun q => hx q.1)

set_option maxRecDepth 20000 in
set_option maxHeartbeats 4000000 in
theorem F_readRecord (K : GK) {σ : GS} {L : List Nat} {z : Nat} {g b : Nat} {w h : Nat} {ru : Int32} {pl : Nat} {bo0 bo1 : Int32} {D : Nat → RD} {rows : Nat → Nat → Int32} (hG : gmI K L σ g b ru pl bo0 bo1 D) (hsb : σ b = bdA w h) (hw1 : 4 ≤ w) (hw2 : w ≤ 7) (hh1 : 4 ≤ h) (hh2 : h ≤ 7) (hP : gmP (w * h) pl D rows) {X kp rf ip fo : Nat} {hk : Int32} (mX : X ∈ L) (sX : σ X = xOg g kp hk rf ip fo) (hXg : X < g) {rk : Nat} {cd dt : Nat → Int32} (mr : rf ∈ L) (mr1 : rf + 1 ∈ L) (mr2 : rf + 2 ∈ L) (sr : σ rf = rfsO rf rk) (sr1 : σ (rf + 1) = iA K 4 cd) (sr2 : σ (rf + 2) = iA K 4 dt) (hgr : g + 245 ≤ rf) (hbr : b < rf ∨ rf + 2 < b) (hst : stA (w * h) (rows pl)) {tn cr : Nat} {tx gc : Nat → Int32} (n0 : ip ∈ L) (n1 : ip + 1 ∈ L) (n2 : ip + 2 ∈ L) (t0 : σ ip = inpO ip tn cr) (t1 : σ (ip + 1) = cA K 80 tx) (t2 : σ (ip + 2) = iA K 80 gc) (htn : tn ≤ 80) (hgi : g + 245 ≤ ip) (hbi : b < ip ∨ ip + 2 < b) (hri : rf + 2 < ip) (hT : gmT D) (hbo : b < g ∨ b = g + 1 ∨ g + 245 ≤ b) (hru : ∃ r0, r0 ≤ 2 ∧ ru = nI r0) {mm8 : Nat} (hmm8 : mm8 ≤ 80000) (hcb : cpB (rows pl) mm8) (hbb : bnB (bnO bo0 bo1)) : gX K yX7_readRecord cX7_readRecord 6 (some .int) 8 1 7 [.ref X] z L (σ) (fun r z1 L1 σ2 => (∃ t c9 g9 i9, t ≤ tn ∧ errT w h tx tn i9 t ∧ r = some (.int (-100 - nI t)) ∧ z1 = z ∧ L1 = L ∧ σ2 = (va_up (va_up σ (ip + 2) (iA K 80 g9)) ip (inpO ip 0 c9))) ∨ (∃ c9 g9 rn, txN w h tx tn rn ∧ (∀ j, j < rn → okX w h ru bo0 bo1 (txA w h tx tn) (txB w h tx tn) pl D rows j) ∧ r = some (.int (nI rn)) ∧ z1 = z ∧ L1 = L ∧ rrS K L (va_up (va_up σ (ip + 2) (iA K 80 g9)) ip (inpO ip 0 c9)) σ2 g b w h ru bo0 bo1 (txA w h tx tn) (txB w h tx tn) pl D rows rn)) (fun E z1 L1 σ2 => z ≤ z1 ∧ L1 = L ∧ (E = "java/lang/UnsupportedOperationException" ∧ ∃ c9 g9 rn i σ9, txN w h tx tn rn ∧ i < rn ∧ (∀ j, j < i → okX w h ru bo0 bo1 (txA w h tx tn) (txB w h tx tn) pl D rows j) ∧ rrS K L (va_up (va_up σ (ip + 2) (iA K 80 g9)) ip (inpO ip 0 c9)) σ9 g b w h ru bo0 bo1 (txA w h tx tn) (txB w h tx tn) pl D rows i ∧ ((endP (pl + i) (w * h) (sq w h ru bo0 bo1 (txA w h tx tn) (txB w h tx tn) pl D rows i).1 (sq w h ru bo0 bo1 (txA w h tx tn) (txB w h tx tn) pl D rows i).2 ∧ σ2 = σ9) ∨ (¬ endP (pl + i) (w * h) (sq w h ru bo0 bo1 (txA w h tx tn) (txB w h tx tn) pl D rows i).1 (sq w h ru bo0 bo1 (txA w h tx tn) (txB w h tx tn) pl D rows i).2 ∧ ((¬ mayF ((sq w h ru bo0 bo1 (txA w h tx tn) (txB w h tx tn) pl D rows i).2 (pl + i)) (txA w h tx tn i) ∧ ∃ c, c < w * h ∧ txA w h tx tn i = nI c ∧ tlR K σ9 rf cd dt (sq w h ru bo0 bo1 (txA w h tx tn) (txB w h tx tn) pl D rows i).1 (sq w h ru bo0 bo1 (txA w h tx tn) (txB w h tx tn) pl D rows i).2 (pl + i) 0 c σ2) ∨ ((mayF ((sq w h ru bo0 bo1 (txA w h tx tn) (txB w h tx tn) pl D rows i).2 (pl + i)) (txA w h tx tn i) ∧ ¬ mayF ((sq w h ru bo0 bo1 (txA w h tx tn) (txB w h tx tn) pl D rows i).2 (pl + i)) (txB w h tx tn i)) ∧ ∃ c, c < w * h ∧ txB w h tx tn i = nI c ∧ tlR K σ9 rf cd dt (sq w h ru bo0 bo1 (txA w h tx tn) (txB w h tx tn) pl D rows i).1 (sq w h ru bo0 bo1 (txA w h tx tn) (txB w h tx tn) pl D rows i).2 (pl + i) 1 c σ2)))))) := by
  have hn : w * h ≤ 49 := Nat.mul_le_mul hw2 hh2
  have hn1 : 16 ≤ w * h := Nat.mul_le_mul hw1 hh1
  have hn49 : w * h ≤ 49 := hn
  obtain ⟨m0, m2, m3, m4, hbL⟩ := hG.1
  have s0 := hG.2.1
  have s2 := hG.2.2.1
  have hpl := hP.1
  have hlat := gm_lat hG hP
  refine g_introX [some (.ref X), none, none, none, none, none] (fun Γ hC hX => ?_) (by simp [g_en, lv_args, Value.category])
  refine g_aload_n (n := 1) hC rfl dX7_readRecord_0 ?_
  refine g_getf (n := 4) (v := .ref ip) hC gf_X7_33 (mX) (sX) rfl dX7_readRecord_1 ?_
  refine g_aload_n (n := 5) hC rfl dX7_readRecord_4 ?_
  refine g_getf (n := 8) (v := .ref g) hC gf_X7_10 (mX) (sX) rfl dX7_readRecord_5 ?_
  refine g_getf (n := 11) (v := .ref b) hC gf_X7_123 (m0) (s0) rfl dX7_readRecord_8 ?_
  refine g_callV hC gv_X7_283 (X_parse K n0 n1 n2 t0 t1 t2 hbL hsb hw1 hw2 hh1 hh2 htn hbi) n0 t0 (by rfl) (by decide) (by decide) (by rfl) (by rfl) (Nat.le_of_ble_eq_true rfl) (by exact ⟨Nat.zero_le _, Nat.zero_le _⟩) dX7_readRecord_11 (fun rv9 z9 L9 σ1 hp9 => ?_)
  obtain ⟨x9, hr9, hz9, hL9, g9, c9, hs9, hpr⟩ := hp9
  rw [hr9, hz9, hL9, hs9]
  show G K Γ (z, 0, 0, L) (va_up (va_up (σ) (ip + 2) (iA K 80 g9)) ip (inpO ip tn c9)) 14 [some (.ref X), none, none, none, none, none] [.int x9]
  refine g_istore_n (n := 15) (ll1 := [some (.ref X), some (.int x9), none, none, none, none]) hC dX7_readRecord_14 rfl ?_
  refine g_aload_n (n := 16) hC rfl dX7_readRecord_15 ?_
  refine g_getf (n := 19) (v := .ref ip) hC gf_X7_33 (mX) ((va_up_ne _ _ (by omega)).trans ((va_up_ne _ _ (by omega)).trans (sX))) rfl dX7_readRecord_16 ?_
  refine g_iconst (n := 20) (v := (nI 0)) hC (by decide) dX7_readRecord_19 ?_
  refine g_putf (n := 23) hC gp_X7_280 (n0) (va_up_self _ _ _) dX7_readRecord_20 ?_
  refine G.eqs (show _ = va_up (va_up (σ) (ip + 2) (iA K 80 g9)) ip (.inr (3, [.int (nI 0), .int (nI c9), .ref (ip + 1), .ref (ip + 2)])) from bx_uu _ _ _ _) ?_
  refine g_iload_n (n := 24) hC rfl dX7_readRecord_23 ?_
  refine g_iconst (n := 25) (v := (-1)) hC (by decide) dX7_readRecord_24 ?_
  refine g_icmp_eq (n := 28) (tgt := 33) hC dX7_readRecord_25 (fun h25 => ?_) (fun h25 => ?_)
  ·
    obtain ⟨rn, hrn, hr26, hc9, hgv, hAB⟩ := pr_n (by omega) hw2 hh2 htn hpr h25
    refine g_aload_n (n := 34) hC rfl dX7_readRecord_33 ?_
    refine g_getf (n := 37) (v := .ref ip) hC gf_X7_33 (mX) ((va_up_ne _ _ (by omega)).trans ((va_up_ne _ _ (by omega)).trans (sX))) rfl dX7_readRecord_34 ?_
    refine g_getf (n := 40) (v := .int (nI c9)) hC gf_X7_287 (n0) (va_up_self _ _ _) rfl dX7_readRecord_37 ?_
    refine g_iconst (n := 41) (v := (nI 2)) hC (by decide) dX7_readRecord_40 ?_
    refine g_idivN (n := 42) hC (by omega) (by omega) (by omega) dX7_readRecord_41 ?_
    refine G.eqi (show _ = nI rn from by rw [hc9, Nat.mul_div_cancel_left _ (by decide)]) ?_
    refine g_istore_n (n := 43) (ll1 := [some (.ref X), some (.int x9), some (.int (nI rn)), none, none, none]) hC dX7_readRecord_42 rfl ?_
    refine g_iconst (n := 44) (v := (nI 0)) hC (by decide) dX7_readRecord_43 ?_
    refine g_istore_n (n := 45) (ll1 := [some (.ref X), some (.int x9), some (.int (nI rn)), some (.int (nI 0)), none, none]) hC dX7_readRecord_44 rfl ?_
    have lp45 : ∀ (n9 : Nat) (i : Nat) (σ9 : GS) (hi : i ≤ rn) (hok9 : ∀ j, j < i → okX w h ru bo0 bo1 (txA w h tx tn) (txB w h tx tn) pl D rows j) (hS9 : rrS K L (va_up (va_up σ (ip + 2) (iA K 80 g9)) ip (inpO ip 0 c9)) σ9 g b w h ru bo0 bo1 (txA w h tx tn) (txB w h tx tn) pl D rows i) (y3 : Int32) (ey3 : y3 = (nI i)) (hm9 : rn - i < n9), G K Γ (z, 0, 0, L) (σ9) 45 [some (.ref X), some (.int x9), some (.int (nI rn)), some (.int y3), none, none] [] := by
      intro n9
      induction n9 with
      | zero =>
        intro i σ9 hi hok9 hS9 y3 ey3 hm9
        exact absurd hm9 (Nat.not_lt_zero _)
      | succ n9 ih45 =>
        intro i σ9 hi hok9 hS9 y3 ey3 hm9
        subst ey3
        have hS9c : rrS K L (va_up (va_up σ (ip + 2) (iA K 80 g9)) ip (inpO ip 0 c9)) σ9 g b w h ru bo0 bo1 (txA w h tx tn) (txB w h tx tn) pl D rows i := hS9
        obtain ⟨hG9, hf9⟩ := hS9c
        obtain ⟨hP9, hT9, hst9, hcp9⟩ := sq_ok (w := w) (h := h) (ru := ru) (x := bo0) (y := bo1) (A := (txA w h tx tn)) (B := (txB w h tx tn)) hn49 hP hT hst hcb i (fun j hj => hAB j (by omega)) hok9
        have hsb9 : σ9 b = bdA w h := (hf9 b hbo).trans ((va_up_ne _ _ (by omega)).trans ((va_up_ne _ _ (by omega)).trans hsb))
        have sX9 := (hf9 X (by omega)).trans ((va_up_ne _ _ (by omega)).trans ((va_up_ne _ _ (by omega)).trans sX))
        have sr9 := (hf9 rf (by omega)).trans ((va_up_ne _ _ (by omega)).trans ((va_up_ne _ _ (by omega)).trans sr))
        have sr19 := (hf9 (rf + 1) (by omega)).trans ((va_up_ne _ _ (by omega)).trans ((va_up_ne _ _ (by omega)).trans sr1))
        have sr29 := (hf9 (rf + 2) (by omega)).trans ((va_up_ne _ _ (by omega)).trans ((va_up_ne _ _ (by omega)).trans sr2))
        have t09 : σ9 ip = inpO ip 0 c9 := (hf9 ip (by omega)).trans (va_up_self _ _ _)
        have t19 : σ9 (ip + 1) = cA K 80 tx := (hf9 (ip + 1) (by omega)).trans ((va_up_ne _ _ (by omega)).trans ((va_up_ne _ _ (by omega)).trans t1))
        have t29 : σ9 (ip + 2) = iA K 80 g9 := (hf9 (ip + 2) (by omega)).trans ((va_up_ne _ _ (by omega)).trans (va_up_self _ _ _))
        refine g_iload_n (n := 46) hC rfl dX7_readRecord_45 ?_
        refine g_iload_n (n := 47) hC rfl dX7_readRecord_46 ?_
        refine g_icmp_geN (n := 50) (tgt := 126) hC (by omega) (by omega) dX7_readRecord_47 (fun h47 => ?_) (fun h47 => ?_)
        ·
          refine g_iload_n (n := 127) hC rfl dX7_readRecord_126 ?_
          exact g_iret hC dX7_readRecord_127 (Or.inr ⟨c9, g9, rn, hrn, (show i = rn by omega) ▸ hok9, rfl, rfl, rfl, (show i = rn by omega) ▸ hS9⟩) (Nat.zero_le _) (Nat.zero_le _)
        ·
          refine g_aload_n (n := 51) hC rfl dX7_readRecord_50 ?_
          refine g_getf (n := 54) (v := .ref ip) hC gf_X7_33 (mX) (sX9) rfl dX7_readRecord_51 ?_
          refine g_iconst (n := 55) (v := (nI 2)) hC (by decide) dX7_readRecord_54 ?_
          refine g_iload_n (n := 56) hC rfl dX7_readRecord_55 ?_
          refine g_imulN (n := 57) hC dX7_readRecord_56 ?_
          refine g_cV (n := 60) (hroom := by exact ⟨Nat.zero_le _, Nat.zero_le _⟩) hC gv_X7_290 (n0) (t09) (X_ichoice K n0 n1 n2 t09 t19 t29 (i := 2 * i) (by omega)) dX7_readRecord_57 ?_
          refine G.eqi (show _ = txA w h tx tn i from (hgv i (by omega)).1) ?_
          refine g_istore (n := 62) (ll1 := [some (.ref X), some (.int x9), some (.int (nI rn)), some (.int (nI i)), some (.int (txA w h tx tn i)), none]) hC dX7_readRecord_60 rfl ?_
          refine g_aload_n (n := 63) hC rfl dX7_readRecord_62 ?_
          refine g_getf (n := 66) (v := .ref ip) hC gf_X7_33 (mX) (sX9) rfl dX7_readRecord_63 ?_
          refine g_iconst (n := 67) (v := (nI 2)) hC (by decide) dX7_readRecord_66 ?_
          refine g_iload_n (n := 68) hC rfl dX7_readRecord_67 ?_
          refine g_imulN (n := 69) hC dX7_readRecord_68 ?_
          refine g_iconst (n := 70) (v := (nI 1)) hC (by decide) dX7_readRecord_69 ?_
          refine g_iaddN (n := 71) hC dX7_readRecord_70 ?_
          refine g_cV (n := 74) (hroom := by exact ⟨Nat.zero_le _, Nat.zero_le _⟩) hC gv_X7_290 (n0) (t09) (X_ichoice K n0 n1 n2 t09 t19 t29 (i := 2 * i + 1) (by omega)) dX7_readRecord_71 ?_
          refine G.eqi (show _ = txB w h tx tn i from (hgv i (by omega)).2) ?_
          refine g_istore (n := 76) (ll1 := [some (.ref X), some (.int x9), some (.int (nI rn)), some (.int (nI i)), some (.int (txA w h tx tn i)), some (.int (txB w h tx tn i))]) hC dX7_readRecord_74 rfl ?_
          refine g_aload_n (n := 77) hC rfl dX7_readRecord_76 ?_
          refine g_getf (n := 80) (v := .ref g) hC gf_X7_10 (mX) (sX9) rfl dX7_readRecord_77 ?_
          refine g_cV (n := 83) (hroom := by exact ⟨Nat.zero_le _, Nat.zero_le _⟩) hC gv_X7_96 (m0) (hG9.2.1) (X_hasEnded K hG9 hsb9 hw1 hw2 hh1 hh2 hP9) dX7_readRecord_80 ?_
          refine g_ifb_ne (n := 86) (tgt := 97) hC dX7_readRecord_83 (fun h83 => ?_) (fun h83 => ?_)
          ·
            exact g_throwSW hC hX th_UOE (List.mem_of_getElem? (i := 23) rfl) dX7_readRecord_97 dX7_readRecord_100 dX7_readRecord_101 dX7_readRecord_104 dX7_readRecord_107 (fun z9 hz9 => ⟨hz9, rfl, rfl, c9, g9, rn, i, σ9, hrn, by omega, hok9, hS9, Or.inl ⟨h83, rfl⟩⟩)
          ·
            refine g_aload_n (n := 87) hC rfl dX7_readRecord_86 ?_
            refine g_iload (n := 89) hC rfl dX7_readRecord_87 ?_
            refine g_iload (n := 91) hC rfl dX7_readRecord_89 ?_
            refine g_callV hC gv_X7_105 (X_admitsX K hG9 hsb9 hw1 hw2 hh1 hh2 hP9 mX sX9 hXg mr mr1 mr2 sr9 sr19 sr29 hgr hbr hst9 (hAB i (by omega)).1 (hAB i (by omega)).2) mX sX9 (by rfl) (by decide) (by decide) (by rfl) (by rfl) (Nat.le_of_ble_eq_true rfl) (by exact ⟨Nat.zero_le _, Nat.zero_le _⟩) dX7_readRecord_91 (fun rv9 z9 L9 σ8 hp9 => ?_)
            obtain ⟨hz9, hL9, hp9⟩ := hp9
            rw [hz9, hL9]
            rcases hp9 with ⟨hmm, hr9, hs9⟩ | ⟨hmm, hr9, hs9⟩ | ⟨hmm, hr9, hs9⟩
            ·
              rw [hr9, hs9]
              show G K Γ (z, 0, 0, L) (σ9) 94 [some (.ref X), some (.int x9), some (.int (nI rn)), some (.int (nI i)), some (.int (txA w h tx tn i)), some (.int (txB w h tx tn i))] [.int (nI 1)]
              refine g_if_ne (n := 97) (tgt := 108) hC dX7_readRecord_94 (fun _ => ?_) (fun h9 => absurd h9 (by decide))
              refine g_aload_n (n := 109) hC rfl dX7_readRecord_108 ?_
              refine g_getf (n := 112) (v := .ref g) hC gf_X7_10 (mX) (sX9) rfl dX7_readRecord_109 ?_
              refine g_iload (n := 114) hC rfl dX7_readRecord_112 ?_
              refine g_iload (n := 116) hC rfl dX7_readRecord_114 ?_
              have hp60 := end_60 h83
              have hld9 := ld_ok hn49 (show mm8 + 392 * i ≤ 100000 by omega) hcp9 hbb
              refine g_cV (n := 119) (hroom := by exact ⟨Nat.zero_le _, Nat.zero_le _⟩) hC gv_X7_114 (m0) (hG9.2.1) (X_addRound K hG9 hsb9 hw1 hw2 hh1 hh2 hP9 hT9 hp60 hbo (a9 := txA w h tx tn i) (b9 := txB w h tx tn i) (hAB i (by omega)).1 (hAB i (by omega)).2 hru hld9) dX7_readRecord_116 ?_
              have h19 := s1_gm (rows := (sq w h ru bo0 bo1 (txA w h tx tn) (txB w h tx tn) pl D rows i).2) (a9 := txA w h tx tn i) (b9 := txB w h tx tn i) (w := w) (h := h) hG9 hp60 rfl
              have hS8 : rrS K L (va_up (va_up σ (ip + 2) (iA K 80 g9)) ip (inpO ip 0 c9)) (rdU K (va_up σ9 g (gmO g b ru (pl + i + 1) bo0 bo1)) (g + 5 + 4 * (pl + i)) (w * h) (scC (txA w h tx tn i) (txB w h tx tn i) (scF (plV w h ru ((sq w h ru bo0 bo1 (txA w h tx tn) (txB w h tx tn) pl D rows i).2 (pl + i)) (bnO bo0 bo1) (txA w h tx tn i) (txB w h tx tn i)) (bnO bo0 bo1) (w * h) 0) (scF (plV w h ru ((sq w h ru bo0 bo1 (txA w h tx tn) (txB w h tx tn) pl D rows i).2 (pl + i)) (bnO bo0 bo1) (txA w h tx tn i) (txB w h tx tn i)) (bnO bo0 bo1) (w * h) 1) ((sq w h ru bo0 bo1 (txA w h tx tn) (txB w h tx tn) pl D rows i).1 (pl + i)).1) (mkX (txA w h tx tn i) (txB w h tx tn i) (stK ru (ldF ((sq w h ru bo0 bo1 (txA w h tx tn) (txB w h tx tn) pl D rows i).2 (pl + i)) (w * h) bo0 bo1))) (wvU w h (plM ru (w * h) ((sq w h ru bo0 bo1 (txA w h tx tn) (txB w h tx tn) pl D rows i).2 (pl + i)) (bnO bo0 bo1) (txA w h tx tn i) (txB w h tx tn i)) (goW w h ru ((sq w h ru bo0 bo1 (txA w h tx tn) (txB w h tx tn) pl D rows i).2 (pl + i)) (bnO bo0 bo1) (txA w h tx tn i) (txB w h tx tn i))) (plV w h ru ((sq w h ru bo0 bo1 (txA w h tx tn) (txB w h tx tn) pl D rows i).2 (pl + i)) (bnO bo0 bo1) (txA w h tx tn i) (txB w h tx tn i))) g b w h ru bo0 bo1 (txA w h tx tn) (txB w h tx tn) pl D rows (i + 1) := ⟨h19.1, fun a ha => (h19.2 a ha).trans (hf9 a ha)⟩
              have hok8 : ∀ j, j < i + 1 → okX w h ru bo0 bo1 (txA w h tx tn) (txB w h tx tn) pl D rows j := fun j hj => by
                rcases Nat.lt_or_ge j i with q | q
                · exact hok9 j q
                · rw [show j = i by omega]; exact ⟨h83, hmm.1, hmm.2⟩
              refine g_pop (n := 120) hC rfl dX7_readRecord_119 ?_
              refine g_iinc (n := 123) (ll1 := [some (.ref X), some (.int x9), some (.int (nI rn)), some (.int (nI (i + 1))), some (.int (txA w h tx tn i)), some (.int (txB w h tx tn i))]) hC dX7_readRecord_120 rfl (nI_inc _) rfl ?_
              refine g_goto (n := 45) hC dX7_readRecord_123 ?_
              exact G.le (ih45 (i + 1) (rdU K (va_up σ9 g (gmO g b ru (pl + i + 1) bo0 bo1)) (g + 5 + 4 * (pl + i)) (w * h) (scC (txA w h tx tn i) (txB w h tx tn i) (scF (plV w h ru ((sq w h ru bo0 bo1 (txA w h tx tn) (txB w h tx tn) pl D rows i).2 (pl + i)) (bnO bo0 bo1) (txA w h tx tn i) (txB w h tx tn i)) (bnO bo0 bo1) (w * h) 0) (scF (plV w h ru ((sq w h ru bo0 bo1 (txA w h tx tn) (txB w h tx tn) pl D rows i).2 (pl + i)) (bnO bo0 bo1) (txA w h tx tn i) (txB w h tx tn i)) (bnO bo0 bo1) (w * h) 1) ((sq w h ru bo0 bo1 (txA w h tx tn) (txB w h tx tn) pl D rows i).1 (pl + i)).1) (mkX (txA w h tx tn i) (txB w h tx tn i) (stK ru (ldF ((sq w h ru bo0 bo1 (txA w h tx tn) (txB w h tx tn) pl D rows i).2 (pl + i)) (w * h) bo0 bo1))) (wvU w h (plM ru (w * h) ((sq w h ru bo0 bo1 (txA w h tx tn) (txB w h tx tn) pl D rows i).2 (pl + i)) (bnO bo0 bo1) (txA w h tx tn i) (txB w h tx tn i)) (goW w h ru ((sq w h ru bo0 bo1 (txA w h tx tn) (txB w h tx tn) pl D rows i).2 (pl + i)) (bnO bo0 bo1) (txA w h tx tn i) (txB w h tx tn i))) (plV w h ru ((sq w h ru bo0 bo1 (txA w h tx tn) (txB w h tx tn) pl D rows i).2 (pl + i)) (bnO bo0 bo1) (txA w h tx tn i) (txB w h tx tn i))) (by omega) (by first | exact hok8 | exact fun j hj => absurd hj (Nat.not_lt_zero _)) (by first | exact hS8 | exact ⟨gm_eq (fun a h1 h2 _ => by rw [va_up_ne _ _ (by omega), va_up_ne _ _ (by omega)]) hG, fun a _ => rfl⟩) _ (by first | rfl | (simp [*]; done)) (by omega)) (And.intro rfl (And.intro rfl (And.intro rfl (And.intro rfl (trivial)))))
            ·
              rw [hr9]
              show G K Γ (z, 0, 0, L) (σ8) 94 [some (.ref X), some (.int x9), some (.int (nI rn)), some (.int (nI i)), some (.int (txA w h tx tn i)), some (.int (txB w h tx tn i))] [.int (nI 0)]
              refine g_if_ne (n := 97) (tgt := 108) hC dX7_readRecord_94 (fun h9 => absurd h9 (by decide)) (fun _ => ?_)
              exact g_throwSW hC hX th_UOE (List.mem_of_getElem? (i := 23) rfl) dX7_readRecord_97 dX7_readRecord_100 dX7_readRecord_101 dX7_readRecord_104 dX7_readRecord_107 (fun z9 hz9 => ⟨hz9, rfl, rfl, c9, g9, rn, i, σ9, hrn, by omega, hok9, hS9, Or.inr ⟨h83, Or.inl ⟨hmm, hs9⟩⟩⟩)
            ·
              rw [hr9]
              show G K Γ (z, 0, 0, L) (σ8) 94 [some (.ref X), some (.int x9), some (.int (nI rn)), some (.int (nI i)), some (.int (txA w h tx tn i)), some (.int (txB w h tx tn i))] [.int (nI 0)]
              refine g_if_ne (n := 97) (tgt := 108) hC dX7_readRecord_94 (fun h9 => absurd h9 (by decide)) (fun _ => ?_)
              exact g_throwSW hC hX th_UOE (List.mem_of_getElem? (i := 23) rfl) dX7_readRecord_97 dX7_readRecord_100 dX7_readRecord_101 dX7_readRecord_104 dX7_readRecord_107 (fun z9 hz9 => ⟨hz9, rfl, rfl, c9, g9, rn, i, σ9, hrn, by omega, hok9, hS9, Or.inr ⟨h83, Or.inr ⟨hmm, hs9⟩⟩⟩)
    exact lp45 _ 0 (va_up (va_up (σ) (ip + 2) (iA K 80 g9)) ip (.inr (3, [.int (nI 0), .int (nI c9), .ref (ip + 1), .ref (ip + 2)]))) (by omega) (by first | exact hok8 | exact fun j hj => absurd hj (Nat.not_lt_zero _)) (by first | exact hS8 | exact ⟨gm_eq (fun a h1 h2 _ => by rw [va_up_ne _ _ (by omega), va_up_ne _ _ (by omega)]) hG, fun a _ => rfl⟩) _ (by first | rfl | (simp [*]; done)) (Nat.lt_succ_self _)
  ·
    refine g_bipush (n := 30) (v := (-100)) hC (by decide) dX7_readRecord_28 ?_
    refine g_iload_n (n := 31) hC rfl dX7_readRecord_30 ?_
    refine g_isub (n := 32) hC dX7_readRecord_31 ?_
    exact g_iret hC dX7_readRecord_32 (by obtain ⟨i9, t, q1, q2, q3⟩ := pr_e hpr h25; exact Or.inl ⟨t, c9, g9, i9, q1, q3, by rw [q2], rfl, rfl, rfl⟩) (Nat.zero_le _) (Nat.zero_le _)
