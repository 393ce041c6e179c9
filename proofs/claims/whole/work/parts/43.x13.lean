/-! ===== the class: a round is copied, and made ===== -/
def rdU (K : GK) (σ : GS) (a n : Nat) (c : Nat → Int32) (p : Int64) (u : Nat → Int64) (f : Nat → Int32) : GS := va_up (va_up (psU K σ (a + 1) n f) a (rndO a c p)) (a + 3) (lA K 8 u)
section RU
variable {K : GK} {σ : GS} {a n : Nat} {c : Nat → Int32} {p : Int64} {u : Nat → Int64} {f : Nat → Int32}
theorem rdU_0 : rdU K σ a n c p u f a = rndO a c p := by unfold rdU psU; (repeat (first | rw [va_up_self] | rw [va_up_ne _ _ (by omega)]))
theorem rdU_1 : rdU K σ a n c p u f (a + 1) = psO (a + 1) f := by unfold rdU psU; (repeat (first | rw [va_up_self] | rw [va_up_ne _ _ (by omega)]))
theorem rdU_2 : rdU K σ a n c p u f (a + 1 + 1) = lA K 6 (psS n f) := by unfold rdU psU; (repeat (first | rw [va_up_self] | rw [va_up_ne _ _ (by omega)]))
theorem rdU_3 : rdU K σ a n c p u f (a + 3) = lA K 8 u := by unfold rdU psU; (repeat (first | rw [va_up_self] | rw [va_up_ne _ _ (by omega)]))
theorem rdU_o {b : Nat} (h : b < a ∨ a + 3 < b) : rdU K σ a n c p u f b = σ b := by rw [rdU, va_up_ne _ _ (by omega), va_up_ne _ _ (by omega), psU, va_up_ne _ _ (by omega), va_up_ne _ _ (by omega)]
theorem rdU_I {L : List Nat} (hm : a ∈ L ∧ a + 1 ∈ L ∧ a + 1 + 1 ∈ L ∧ a + 3 ∈ L) : rdI K L (rdU K σ a n c p u f) a n c p u f := ⟨hm, rdU_0, rdU_1, rdU_2, rdU_3⟩
theorem rdU_cong {g : Nat → Int32} (h : ∀ i, i < n → f i = g i) (h1 : f 147 = g 147) (h2 : f 148 = g 148) : rdU K σ a n c p u f = rdU K σ a n c p u g := by rw [rdU, psU_cong h h1 h2, rdU]
theorem four_ext {σ1 σ2 : GS} (a : Nat) (h0 : σ1 a = σ2 a) (h1 : σ1 (a + 1) = σ2 (a + 1)) (h2 : σ1 (a + 1 + 1) = σ2 (a + 1 + 1)) (h3 : σ1 (a + 3) = σ2 (a + 3)) (ho : ∀ b, b < a ∨ a + 3 < b → σ1 b = σ2 b) : σ1 = σ2 := by
  funext b
  by_cases e0 : b = a
  · rw [e0]; exact h0
  · by_cases e1 : b = a + 1
    · rw [e1]; exact h1
    · by_cases e2 : b = a + 1 + 1
      · rw [e2]; exact h2
      · by_cases e3 : b = a + 3
        · rw [e3]; exact h3
        · exact ho b (by omega)
theorem rdU_of : psU K (va_up (va_up σ a (rndO a c p)) (a + 3) (lA K 8 u)) (a + 1) n f = rdU K σ a n c p u f := by
  refine four_ext a ?_ ?_ ?_ ?_ (fun b hb => ?_)
  · rw [rdU_0]; unfold psU; (repeat (first | rw [va_up_self] | rw [va_up_ne _ _ (by omega)]))
  · rw [rdU_1]; unfold psU; (repeat (first | rw [va_up_self] | rw [va_up_ne _ _ (by omega)]))
  · rw [rdU_2]; unfold psU; (repeat (first | rw [va_up_self] | rw [va_up_ne _ _ (by omega)]))
  · rw [rdU_3]; unfold psU; (repeat (first | rw [va_up_self] | rw [va_up_ne _ _ (by omega)]))
  · rw [rdU_o hb, psU, va_up_ne _ _ (by omega), va_up_ne _ _ (by omega), va_up_ne _ _ (by omega), va_up_ne _ _ (by omega)]
theorem rdU_p {g : Nat → Int32} : psU K (rdU K σ a n c p u f) (a + 1) n g = rdU K σ a n c p u g := by
  refine four_ext a ?_ ?_ ?_ ?_ (fun b hb => ?_)
  · rw [rdU_0]; unfold rdU psU; (repeat (first | rw [va_up_self] | rw [va_up_ne _ _ (by omega)]))
  · rw [rdU_1]; unfold psU; (repeat (first | rw [va_up_self] | rw [va_up_ne _ _ (by omega)]))
  · rw [rdU_2]; unfold psU; (repeat (first | rw [va_up_self] | rw [va_up_ne _ _ (by omega)]))
  · rw [rdU_3]; unfold rdU psU; (repeat (first | rw [va_up_self] | rw [va_up_ne _ _ (by omega)]))
  · rw [rdU_o hb, psU, va_up_ne _ _ (by omega), va_up_ne _ _ (by omega), rdU_o hb]
theorem rdU_u {u2 : Nat → Int64} : va_up (rdU K σ a n c p u f) (a + 3) (lA K 8 u2) = rdU K σ a n c p u2 f := by rw [rdU, bx_uu, rdU]
theorem mk_w1 {f1 : Nat → Int32} {o1 : va_E} (s3 : σ (a + 3) = lA K 8 u) (hO : psO (a + 1) f1 = psO (a + 1) f) : va_up (va_up (psU K (va_up σ a o1) (a + 1) n f) (a + 1 + 1) (lA K 6 (psS n f1))) a (rndO a c p) = rdU K σ a n c p u f1 := by
  refine four_ext a ?_ ?_ ?_ ?_ (fun b hb => ?_)
  · rw [rdU_0]; (repeat (first | rw [va_up_self] | rw [va_up_ne _ _ (by omega)]))
  · rw [rdU_1, hO]; unfold psU; (repeat (first | rw [va_up_self] | rw [va_up_ne _ _ (by omega)]))
  · rw [rdU_2]; (repeat (first | rw [va_up_self] | rw [va_up_ne _ _ (by omega)]))
  · rw [rdU_3, ← s3]; unfold psU; (repeat (first | rw [va_up_self] | rw [va_up_ne _ _ (by omega)]))
  · rw [rdU_o hb, va_up_ne _ _ (by omega), va_up_ne _ _ (by omega), psU, va_up_ne _ _ (by omega), va_up_ne _ _ (by omega), va_up_ne _ _ (by omega)]
end RU
theorem wv_cp {f g : Nat → Int64} (hf : ∀ k, 8 ≤ k → f k = 0) (hg : ∀ k, 8 ≤ k → g k = 0) : va_cpy f g 0 0 8 = f := by
  funext k
  by_cases e : k < 8
  · rw [va_cpy, if_pos (by omega)]
    congr 1
    omega
  · rw [va_cpy, if_neg (by omega), hf k (by omega), hg k (by omega)]
theorem psO_giv {a n s : Nat} {x : Int32} {f : Nat → Int32} (hn : n ≤ 49) : psO a (givF n x s f) = psO a f := by
  rw [givF]
  split
  · rfl
  · rw [psO, psO, turF, if_neg (by omega), turF, if_neg (by omega)]
/-- two choices on a position, s where they clash -/
def mkF (n : Nat) (x y : Int32) (s : Nat) (f : Nat → Int32) : Nat → Int32 := if x = y then givF n x s f else givF n y 2 (givF n x 1 f)
def mkX (x y : Int32) (s : Nat) : Int64 := if x = y then givX x s else givX x 1 ||| givX y 2
def ccF (x y : Int32) (c : Nat → Int32) : Nat → Int32 := va_up (va_up c 0 x) 1 y
theorem cc_O {a : Nat} {x y : Int32} {c : Nat → Int32} {p : Int64} : (.inr (6, [.int x, .int y, .int (c 2), .int (c 3), .ref (a + 1), .long p, .ref (a + 3)]) : va_E) = rndO a (ccF x y c) p := by simp [rndO, ccF, va_up]
theorem chM_0 {w h : Nat} {f : Nat → Int32} (hn : w * h ≤ 49) : chM w h f = 0 ↔ wnm w h f = 0 := by
  rw [wnm, wvN, ct_0]
  constructor
  · intro q k hk
    cases e : decide (wA w h f k ≠ wB w h f k)
    · rfl
    · have h1 : tb (chM w h f) k = true := by rw [chM, tb_bitsF _ _ (by omega), e]; simp [hk]
      rw [q, tb_0] at h1; cases h1
  · intro q
    apply tb_ext
    intro i _
    rw [tb_0, chM, tb_bitsF _ _ (by omega)]
    by_cases e : i < w * h
    · rw [q i e]; simp
    · simp [e]
/-- the waves' sets, of W waves -/
def cpU (W : Nat) (m u : Nat → Int64) (k : Nat) : Nat → Int64 := fun j => if j < k then (if j < W then m j else 0) else u j
noncomputable def wvU (w h : Nat) (F : Nat → Int32) (W : Nat) : Nat → Int64 := fun j => if j < W then chM w h (wit w h F j) else 0
theorem cpU_0 {W : Nat} {m u : Nat → Int64} : cpU W m u 0 = u := funext fun j => if_neg (by omega)
theorem cpU_s {W k : Nat} {m u : Nat → Int64} {v : Int64} (hv : v = if k < W then m k else 0) : va_up (cpU W m u k) k v = cpU W m u (k + 1) := by
  funext j
  by_cases e : j = k
  · subst e
    rw [va_up_self, cpU, if_pos (by omega), hv]
  · rw [va_up_ne _ _ e]
    simp only [cpU]
    by_cases h1 : j < k
    · rw [if_pos h1, if_pos (show j < k + 1 by omega)]
    · rw [if_neg h1, if_neg (show ¬ j < k + 1 by omega)]
theorem cpU_8 {w h W : Nat} {F : Nat → Int32} {u : Nat → Int64} (hW : W ≤ 8) (hu : ∀ k, 8 ≤ k → u k = 0) : cpU W (fun j => chM w h (wit w h F j)) u 8 = wvU w h F W := by
  funext j
  simp only [cpU, wvU]
  by_cases h1 : j < 8
  · rw [if_pos h1]
  · rw [if_neg h1, if_neg (by omega), hu j (by omega)]
theorem wvU_t {w h W : Nat} {F : Nat → Int32} (hW : W ≤ 8) : ∀ k, 8 ≤ k → wvU w h F W k = 0 := fun k hk => if_neg (by omega)

set_option maxRecDepth 20000 in
theorem X_rcopy (K : GK) {σ : GS} {L : List Nat} {z : Nat} {a : Nat} {c : Nat → Int32} {p : Int64} {u : Nat → Int64} {c0 c1 : Int32} {g : Nat → Int64} (hm : a ∈ L ∧ a + 1 ∈ L ∧ a + 1 + 1 ∈ L ∧ a + 3 ∈ L) (s0 : σ a = rndO a c p) (s1 : σ (a + 1) = .inr (4, [.ref (a + 1 + 1), .int c0, .int c1])) (s2 : σ (a + 1 + 1) = lA K 6 g) (s3 : σ (a + 3) = lA K 8 u) (hg : ∀ k, 6 ≤ k → g k = 0) (hu : ∀ k, 8 ≤ k → u k = 0) {b n : Nat} {c2 : Nat → Int32} {p2 : Int64} {u2 : Nat → Int64} {f : Nat → Int32} (hr : rdI K L σ b n c2 p2 u2 f) (hu2 : ∀ k, 8 ≤ k → u2 k = 0) (hab : a + 3 < b ∨ b + 3 < a) : gT K yX6_copyFrom cX6_copyFrom 2 none 2 [.ref a, .ref b] z L (σ) none (rdU K σ a n c2 p2 u2 f) := by
  obtain ⟨m0, m1, m2, m3⟩ := hm
  obtain ⟨⟨k0, k1, k2, k3⟩, t0, t1, t2, t3⟩ := hr
  refine g_intro [some (.ref a), some (.ref b)] (fun Γ hC => ?_) (by simp [g_en, lv_args, Value.category])
  refine g_aload_n (n := 1) hC rfl dX6_copyFrom_0 ?_
  refine g_aload_n (n := 2) hC rfl dX6_copyFrom_1 ?_
  refine g_getf (n := 5) (v := .int (c2 0)) hC gf_X6_22 (k0) (t0) rfl dX6_copyFrom_2 ?_
  refine g_putf (n := 8) hC gp_X6_22 (m0) (s0) dX6_copyFrom_5 ?_
  refine G.eqs (show _ = va_up (σ) a (.inr (6, [.int (c2 0), .int (c 1), .int (c 2), .int (c 3), .ref (a + 1), .long p, .ref (a + 3)])) from rfl) ?_
  refine g_aload_n (n := 9) hC rfl dX6_copyFrom_8 ?_
  refine g_aload_n (n := 10) hC rfl dX6_copyFrom_9 ?_
  refine g_getf (n := 13) (v := .int (c2 1)) hC gf_X6_26 (k0) ((va_up_ne _ _ (by omega)).trans (t0)) rfl dX6_copyFrom_10 ?_
  refine g_putf (n := 16) hC gp_X6_26 (m0) (va_up_self _ _ _) dX6_copyFrom_13 ?_
  refine G.eqs (show _ = va_up (σ) a (.inr (6, [.int (c2 0), .int (c2 1), .int (c 2), .int (c 3), .ref (a + 1), .long p, .ref (a + 3)])) from bx_uu _ _ _ _) ?_
  refine g_aload_n (n := 17) hC rfl dX6_copyFrom_16 ?_
  refine g_aload_n (n := 18) hC rfl dX6_copyFrom_17 ?_
  refine g_getf (n := 21) (v := .int (c2 2)) hC gf_X6_29 (k0) ((va_up_ne _ _ (by omega)).trans (t0)) rfl dX6_copyFrom_18 ?_
  refine g_putf (n := 24) hC gp_X6_29 (m0) (va_up_self _ _ _) dX6_copyFrom_21 ?_
  refine G.eqs (show _ = va_up (σ) a (.inr (6, [.int (c2 0), .int (c2 1), .int (c2 2), .int (c 3), .ref (a + 1), .long p, .ref (a + 3)])) from bx_uu _ _ _ _) ?_
  refine g_aload_n (n := 25) hC rfl dX6_copyFrom_24 ?_
  refine g_aload_n (n := 26) hC rfl dX6_copyFrom_25 ?_
  refine g_getf (n := 29) (v := .int (c2 3)) hC gf_X6_32 (k0) ((va_up_ne _ _ (by omega)).trans (t0)) rfl dX6_copyFrom_26 ?_
  refine g_putf (n := 32) hC gp_X6_32 (m0) (va_up_self _ _ _) dX6_copyFrom_29 ?_
  refine G.eqs (show _ = va_up (σ) a (.inr (6, [.int (c2 0), .int (c2 1), .int (c2 2), .int (c2 3), .ref (a + 1), .long p, .ref (a + 3)])) from bx_uu _ _ _ _) ?_
  refine g_aload_n (n := 33) hC rfl dX6_copyFrom_32 ?_
  refine g_aload_n (n := 34) hC rfl dX6_copyFrom_33 ?_
  refine g_getf (n := 37) (v := .long p2) hC gf_X6_35 (k0) ((va_up_ne _ _ (by omega)).trans (t0)) rfl dX6_copyFrom_34 ?_
  refine g_putf (n := 40) hC gp_X6_35 (m0) (va_up_self _ _ _) dX6_copyFrom_37 ?_
  refine G.eqs (show _ = va_up (σ) a (.inr (6, [.int (c2 0), .int (c2 1), .int (c2 2), .int (c2 3), .ref (a + 1), .long p2, .ref (a + 3)])) from bx_uu _ _ _ _) ?_
  refine g_aload_n (n := 41) hC rfl dX6_copyFrom_40 ?_
  refine g_getf (n := 44) (v := .ref (b + 3)) hC gf_X6_18 (k0) ((va_up_ne _ _ (by omega)).trans (t0)) rfl dX6_copyFrom_41 ?_
  refine g_iconst (n := 45) (v := (nI 0)) hC (by decide) dX6_copyFrom_44 ?_
  refine g_aload_n (n := 46) hC rfl dX6_copyFrom_45 ?_
  refine g_getf (n := 49) (v := .ref (a + 3)) hC gf_X6_18 (m0) (va_up_self _ _ _) rfl dX6_copyFrom_46 ?_
  refine g_iconst (n := 50) (v := (nI 0)) hC (by decide) dX6_copyFrom_49 ?_
  refine g_bipush (n := 52) (v := (nI 8)) hC (by decide) dX6_copyFrom_50 ?_
  refine g_copyl (n := 55) hC (by exact gmem (i := 323) (by decide +kernel) (by decide +kernel)) (k3) (m3) ((va_up_ne _ _ (by omega)).trans (t3)) ((va_up_ne _ _ (by omega)).trans (s3)) (by decide) rfl dX6_copyFrom_52 ?_
  refine G.eqs (show _ = va_up (va_up (σ) a (.inr (6, [.int (c2 0), .int (c2 1), .int (c2 2), .int (c2 3), .ref (a + 1), .long p2, .ref (a + 3)]))) (a + 3) (lA K 8 (u2)) from by rw [wv_cp hu2 hu]) ?_
  refine g_aload_n (n := 56) hC rfl dX6_copyFrom_55 ?_
  refine g_getf (n := 59) (v := .ref (a + 1)) hC gf_X6_12 (m0) ((va_up_ne _ _ (by omega)).trans (va_up_self _ _ _)) rfl dX6_copyFrom_56 ?_
  refine g_aload_n (n := 60) hC rfl dX6_copyFrom_59 ?_
  refine g_getf (n := 63) (v := .ref (b + 1)) hC gf_X6_12 (k0) ((va_up_ne _ _ (by omega)).trans ((va_up_ne _ _ (by omega)).trans (t0))) rfl dX6_copyFrom_60 ?_
  refine g_cVv (n := 66) hC gv_X6_45 (m1) ((va_up_ne _ _ (by omega)).trans ((va_up_ne _ _ (by omega)).trans (s1))) (X_copyFrom K (a := a + 1) (b := b + 1) (n := n) m1 m2 ((va_up_ne _ _ (by omega)).trans ((va_up_ne _ _ (by omega)).trans (s1))) ((va_up_ne _ _ (by omega)).trans ((va_up_ne _ _ (by omega)).trans (s2))) hg k1 k2 ((va_up_ne _ _ (by omega)).trans ((va_up_ne _ _ (by omega)).trans (t1))) ((va_up_ne _ _ (by omega)).trans ((va_up_ne _ _ (by omega)).trans (t2))) (by omega)) dX6_copyFrom_63 ?_
  exact g_vret hC dX6_copyFrom_66 (⟨rfl, rfl, rfl, rdU_of⟩)

theorem mk147 {n s s2 i : Nat} {x y : Int32} {f : Nat → Int32} (hn : n ≤ 49) (hi : i = 147 ∨ i = 148) : givF n y s2 (givF n x s f) i = f i := by
  have h1 : ∀ (x : Int32) (s : Nat) (f : Nat → Int32), givF n x s f i = f i := fun x s f => by
    rw [givF]
    split
    · rfl
    · rw [turF, if_neg (by omega)]
  rw [h1, h1]

set_option maxRecDepth 20000 in
set_option maxHeartbeats 2000000 in
theorem X_make (K : GK) {σ : GS} {L : List Nat} {z : Nat} {b : Nat} {w h : Nat} (hbL : b ∈ L) (hsb : σ b = bdA w h) (hw1 : 4 ≤ w) (hw2 : w ≤ 7) (hh1 : 4 ≤ h) (hh2 : h ≤ 7) {a : Nat} {c : Nat → Int32} {p : Int64} {u : Nat → Int64} {c0 c1 : Int32} {g : Nat → Int64} (hm : a ∈ L ∧ a + 1 ∈ L ∧ a + 1 + 1 ∈ L ∧ a + 3 ∈ L) (s0 : σ a = rndO a c p) (s1 : σ (a + 1) = .inr (4, [.ref (a + 1 + 1), .int c0, .int c1])) (s2 : σ (a + 1 + 1) = lA K 6 g) (s3 : σ (a + 3) = lA K 8 u) (hg : ∀ k, 6 ≤ k → g k = 0) (hu : ∀ k, 8 ≤ k → u k = 0) {q : Nat} {fb : Nat → Int32} (hq : q ∈ L) (hq1 : q + 1 ∈ L) (tq : σ q = psO q fb) (tq1 : σ (q + 1) = lA K 6 (psS (w * h) fb)) (hqa : q + 1 < a ∨ a + 3 < q) (hba : b < a ∨ a + 3 < b) {x y : Int32} {s : Nat} (hx : chOK (w * h) x) (hy : chOK (w * h) y) (hs5 : s ≤ 5) {F : Nat → Int32} (hF : ∀ i, i < w * h → mkF (w * h) x y s fb i = F i) (hF1 : fb 147 = F 147) (hF2 : fb 148 = F 148) {W : Nat} (hW : wcn w h F W) : gT K yX6_make cX6_make 8 none 4 [.ref a, .ref b, .ref q, .int x, .int y, .int (nI s)] z L (σ) none (rdU K σ a (w * h) (ccF x y c) (mkX x y s) (wvU w h F W) (wit w h F W)) := by
  have hn : w * h ≤ 49 := Nat.mul_le_mul hw2 hh2
  have hn1 : 16 ≤ w * h := Nat.mul_le_mul hw1 hh1
  obtain ⟨m0, m1, m2, m3⟩ := hm
  refine g_intro [some (.ref a), some (.ref b), some (.ref q), some (.int x), some (.int y), some (.int (nI s)), none, none] (fun Γ hC => ?_) (by simp [g_en, lv_args, Value.category])
  refine g_aload_n (n := 1) hC rfl dX6_make_0 ?_
  refine g_iload_n (n := 2) hC rfl dX6_make_1 ?_
  refine g_putf (n := 5) hC gp_X6_22 (m0) (s0) dX6_make_2 ?_
  refine G.eqs (show _ = va_up (σ) a (.inr (6, [.int x, .int (c 1), .int (c 2), .int (c 3), .ref (a + 1), .long p, .ref (a + 3)])) from rfl) ?_
  refine g_aload_n (n := 6) hC rfl dX6_make_5 ?_
  refine g_iload (n := 8) hC rfl dX6_make_6 ?_
  refine g_putf (n := 11) hC gp_X6_26 (m0) (va_up_self _ _ _) dX6_make_8 ?_
  refine G.eqs (show _ = va_up (σ) a (.inr (6, [.int x, .int y, .int (c 2), .int (c 3), .ref (a + 1), .long p, .ref (a + 3)])) from bx_uu _ _ _ _) ?_
  refine g_aload_n (n := 12) hC rfl dX6_make_11 ?_
  refine g_getf (n := 15) (v := .ref (a + 1)) hC gf_X6_12 (m0) (va_up_self _ _ _) rfl dX6_make_12 ?_
  refine g_aload_n (n := 16) hC rfl dX6_make_15 ?_
  refine g_cVv (n := 19) hC gv_X6_45 (m1) ((va_up_ne _ _ (by omega)).trans (s1)) (X_copyFrom K (a := a + 1) (b := q) (n := w * h) m1 m2 ((va_up_ne _ _ (by omega)).trans (s1)) ((va_up_ne _ _ (by omega)).trans (s2)) hg hq hq1 ((va_up_ne _ _ (by omega)).trans (tq)) ((va_up_ne _ _ (by omega)).trans (tq1)) (by omega)) dX6_make_16 ?_
  have w0 : (psU K (va_up (σ) a (.inr (6, [.int x, .int y, .int (c 2), .int (c 3), .ref (a + 1), .long p, .ref (a + 3)]))) (a + 1) (w * h) fb) a = .inr (6, [.int x, .int y, .int (c 2), .int (c 3), .ref (a + 1), .long p, .ref (a + 3)]) := by unfold psU; (repeat (first | rw [va_up_self] | rw [va_up_ne _ _ (by omega)]))
  have w1 : (psU K (va_up (σ) a (.inr (6, [.int x, .int y, .int (c 2), .int (c 3), .ref (a + 1), .long p, .ref (a + 3)]))) (a + 1) (w * h) fb) (a + 1) = psO (a + 1) fb := by unfold psU; (repeat (first | rw [va_up_self] | rw [va_up_ne _ _ (by omega)]))
  have w2 : (psU K (va_up (σ) a (.inr (6, [.int x, .int y, .int (c 2), .int (c 3), .ref (a + 1), .long p, .ref (a + 3)]))) (a + 1) (w * h) fb) (a + 1 + 1) = lA K 6 (psS (w * h) fb) := by unfold psU; (repeat (first | rw [va_up_self] | rw [va_up_ne _ _ (by omega)]))
  have lp79 : G K Γ (z, 0, 0, L) (rdU K σ a (w * h) (ccF x y c) (mkX x y s) u F) 79 [some (.ref a), some (.ref b), some (.ref q), some (.int x), some (.int y), some (.int (nI s)), none, none] [] := by
    refine g_iconst (n := 80) (v := (nI 1)) hC (by decide) dX6_make_79 ?_
    refine g_istore (n := 82) (ll1 := [some (.ref a), some (.ref b), some (.ref q), some (.int x), some (.int y), some (.int (nI s)), some (.int (nI 1)), none]) hC dX6_make_80 rfl ?_
    refine g_iconst (n := 83) (v := (nI 0)) hC (by decide) dX6_make_82 ?_
    refine g_istore (n := 85) (ll1 := [some (.ref a), some (.ref b), some (.ref q), some (.int x), some (.int y), some (.int (nI s)), some (.int (nI 1)), some (.int (nI 0))]) hC dX6_make_83 rfl ?_
    have lp85 : ∀ (n9 : Nat) (k : Nat) (hk : k ≤ 8) (y6 : Int32) (ey6 : y6 = (bI (k ≤ W))) (y7 : Int32) (ey7 : y7 = (nI k)) (hm9 : 8 - k < n9), G K Γ (z, 0, 0, L) (rdU K σ a (w * h) (ccF x y c) (mkX x y s) (cpU W (fun j => chM w h (wit w h F j)) u k) (wit w h F (min k W))) 85 [some (.ref a), some (.ref b), some (.ref q), some (.int x), some (.int y), some (.int (nI s)), some (.int y6), some (.int y7)] [] := by
      intro n9
      induction n9 with
      | zero =>
        intro k hk y6 ey6 y7 ey7 hm9
        exact absurd hm9 (Nat.not_lt_zero _)
      | succ n9 ih85 =>
        intro k hk y6 ey6 y7 ey7 hm9
        subst ey6
        subst ey7
        refine g_iload (n := 87) hC rfl dX6_make_85 ?_
        refine g_bipush (n := 89) (v := (nI 8)) hC (by decide) dX6_make_87 ?_
        refine g_icmp_geN (n := 92) (tgt := 141) hC (by omega) (by omega) dX6_make_89 (fun h89 => ?_) (fun h89 => ?_)
        ·
          exact g_vret hC dX6_make_141 (⟨rfl, rfl, rfl, (by rw [show k = 8 by omega, cpU_8 hW.1 hu, Nat.min_eq_right hW.1])⟩)
        ·
          refine g_aload_n (n := 93) hC rfl dX6_make_92 ?_
          refine g_getf (n := 96) (v := .ref (a + 3)) hC gf_X6_18 (m0) (rdU_0) rfl dX6_make_93 ?_
          refine g_iload (n := 98) hC rfl dX6_make_96 ?_
          refine g_iload (n := 100) hC rfl dX6_make_98 ?_
          refine g_ifb_eq (n := 103) (tgt := 114) hC dX6_make_100 (fun h100 => ?_) (fun h100 => ?_)
          ·
            refine g_lconst (n := 115) (v := 0) hC (by decide) dX6_make_114 ?_
            refine g_last (n := 116) (j := k) (f := (cpU W (fun j => chM w h (wit w h F j)) u k)) hC m3 rdU_3 rfl (by omega) (by decide) dX6_make_115 ?_
            refine G.eqs (show _ = rdU K σ a (w * h) (ccF x y c) (mkX x y s) (va_up (cpU W (fun j => chM w h (wit w h F j)) u k) k 0) (wit w h F (min k W)) from rdU_u) ?_
            refine g_aload_n (n := 117) hC rfl dX6_make_116 ?_
            refine g_getf (n := 120) (v := .ref (a + 3)) hC gf_X6_18 (m0) (rdU_0) rfl dX6_make_117 ?_
            refine g_iload (n := 122) hC rfl dX6_make_120 ?_
            refine g_lald (n := 123) (j := k) hC (m3) (rdU_3) (rfl) (by omega) (by omega) dX6_make_122 ?_
            refine G.eql (va_up_self _ _ _) ?_
            refine g_lconst (n := 124) (v := 0) hC (by decide) dX6_make_123 ?_
            refine g_lcmp_eq (n := 128) (tgt := 132) hC dX6_make_124 dX6_make_125 (fun h124 => ?_) (fun h124 => ?_)
            ·
              refine g_iconst (n := 133) (v := (nI 0)) hC (by decide) dX6_make_132 ?_
              refine g_istore (n := 135) (ll1 := [some (.ref a), some (.ref b), some (.ref q), some (.int x), some (.int y), some (.int (nI s)), some (.int (nI 0)), some (.int (nI k))]) hC dX6_make_133 rfl ?_
              refine g_iinc (n := 138) (ll1 := [some (.ref a), some (.ref b), some (.ref q), some (.int x), some (.int y), some (.int (nI s)), some (.int (nI 0)), some (.int (nI (k + 1)))]) hC dX6_make_135 rfl (nI_inc _) rfl ?_
              refine g_goto (n := 85) hC dX6_make_138 ?_
              refine G.eqs (show _ = rdU K σ a (w * h) (ccF x y c) (mkX x y s) (cpU W (fun j => chM w h (wit w h F j)) u (k + 1)) (wit w h F (min (k + 1) W)) from by rw [cpU_s (m := (fun j => chM w h (wit w h F j))) (show (0 : Int64) = _ from (if_neg (by omega)).symm), show min (k + 1) W = min k W by omega]) ?_
              exact ih85 (k + 1) (by omega) _ ((show nI 0 = bI _ from (bI_f (by omega)).symm)) _ (by first | rfl | (simp [*]; done)) (by omega)
            ·
              exact absurd rfl h124
          ·
            have hmin : min k W = k := Nat.min_eq_left h100
            refine G.eqs (show _ = rdU K σ a (w * h) (ccF x y c) (mkX x y s) (cpU W (fun j => chM w h (wit w h F j)) u k) (wit w h F k) from by rw [hmin]) ?_
            refine g_aload_n (n := 104) hC rfl dX6_make_103 ?_
            refine g_getf (n := 107) (v := .ref (a + 1)) hC gf_X6_12 (m0) (rdU_0) rfl dX6_make_104 ?_
            refine g_aload_n (n := 108) hC rfl dX6_make_107 ?_
            refine g_cV (n := 111) hC gv_X6_53 (m1) (rdU_1) (X_capture K hbL ((rdU_o (by omega)).trans hsb) hw1 hw2 hh1 hh2 m1 m2 rdU_1 rdU_2 k) dX6_make_108 ?_
            refine G.eqs (show _ = rdU K σ a (w * h) (ccF x y c) (mkX x y s) (cpU W (fun j => chM w h (wit w h F j)) u k) (wit w h F (k + 1)) from rdU_p) ?_
            refine g_goto (n := 115) hC dX6_make_111 ?_
            refine g_last (n := 116) (j := k) (f := (cpU W (fun j => chM w h (wit w h F j)) u k)) hC m3 rdU_3 rfl (by omega) (by decide) dX6_make_115 ?_
            refine G.eqs (show _ = rdU K σ a (w * h) (ccF x y c) (mkX x y s) (va_up (cpU W (fun j => chM w h (wit w h F j)) u k) k (chM w h (wit w h F k))) (wit w h F (k + 1)) from rdU_u) ?_
            refine g_aload_n (n := 117) hC rfl dX6_make_116 ?_
            refine g_getf (n := 120) (v := .ref (a + 3)) hC gf_X6_18 (m0) (rdU_0) rfl dX6_make_117 ?_
            refine g_iload (n := 122) hC rfl dX6_make_120 ?_
            refine g_lald (n := 123) (j := k) hC (m3) (rdU_3) (rfl) (by omega) (by omega) dX6_make_122 ?_
            refine G.eql (va_up_self _ _ _) ?_
            refine g_lconst (n := 124) (v := 0) hC (by decide) dX6_make_123 ?_
            refine g_lcmp_eq (n := 128) (tgt := 132) hC dX6_make_124 dX6_make_125 (fun h124 => ?_) (fun h124 => ?_)
            ·
              have hkW : k = W := by
                by_cases e : k < W
                · exact absurd ((chM_0 hn).mp h124) (hW.2.1 k e)
                · omega
              refine g_iconst (n := 133) (v := (nI 0)) hC (by decide) dX6_make_132 ?_
              refine g_istore (n := 135) (ll1 := [some (.ref a), some (.ref b), some (.ref q), some (.int x), some (.int y), some (.int (nI s)), some (.int (nI 0)), some (.int (nI k))]) hC dX6_make_133 rfl ?_
              refine g_iinc (n := 138) (ll1 := [some (.ref a), some (.ref b), some (.ref q), some (.int x), some (.int y), some (.int (nI s)), some (.int (nI 0)), some (.int (nI (k + 1)))]) hC dX6_make_135 rfl (nI_inc _) rfl ?_
              refine g_goto (n := 85) hC dX6_make_138 ?_
              refine G.eqs (show _ = rdU K σ a (w * h) (ccF x y c) (mkX x y s) (cpU W (fun j => chM w h (wit w h F j)) u (k + 1)) (wit w h F (min (k + 1) W)) from by rw [cpU_s (m := (fun j => chM w h (wit w h F j))) (v := chM w h (wit w h F k)) (by rw [if_neg (by omega)]; exact h124), show min (k + 1) W = k by omega, show wit w h F (k + 1) = wit w h F k from wst_id ((chM_0 hn).mp h124)]) ?_
              exact ih85 (k + 1) (by omega) _ ((show nI 0 = bI _ from (bI_f (by omega)).symm)) _ (by first | rfl | (simp [*]; done)) (by omega)
            ·
              have hkW : k + 1 ≤ W := by
                by_cases e : k = W
                · rcases hW.2.2 with q9 | q9
                  · omega
                  · exact absurd ((chM_0 hn).mpr (by rw [e]; exact q9)) h124
                · omega
              refine g_iconst (n := 129) (v := (nI 1)) hC (by decide) dX6_make_128 ?_
              refine g_goto (n := 133) hC dX6_make_129 ?_
              refine g_istore (n := 135) (ll1 := [some (.ref a), some (.ref b), some (.ref q), some (.int x), some (.int y), some (.int (nI s)), some (.int (nI 1)), some (.int (nI k))]) hC dX6_make_133 rfl ?_
              refine g_iinc (n := 138) (ll1 := [some (.ref a), some (.ref b), some (.ref q), some (.int x), some (.int y), some (.int (nI s)), some (.int (nI 1)), some (.int (nI (k + 1)))]) hC dX6_make_135 rfl (nI_inc _) rfl ?_
              refine g_goto (n := 85) hC dX6_make_138 ?_
              refine G.eqs (show _ = rdU K σ a (w * h) (ccF x y c) (mkX x y s) (cpU W (fun j => chM w h (wit w h F j)) u (k + 1)) (wit w h F (min (k + 1) W)) from by rw [cpU_s (m := (fun j => chM w h (wit w h F j))) (v := chM w h (wit w h F k)) (if_pos (show k < W by omega)).symm, show min (k + 1) W = k + 1 by omega]) ?_
              exact ih85 (k + 1) (by omega) _ ((show nI 1 = bI _ from (bI_t hkW).symm)) _ (by first | rfl | (simp [*]; done)) (by omega)
    refine G.eqs (show _ = rdU K σ a (w * h) (ccF x y c) (mkX x y s) (cpU W (fun j => chM w h (wit w h F j)) u 0) (wit w h F (min 0 W)) from by rw [cpU_0, Nat.zero_min]; rfl) ?_
    exact lp85 _ 0 (by omega) _ ((show nI 1 = bI _ from (bI_t (Nat.zero_le _)).symm)) _ (by first | rfl | (simp [*]; done)) (Nat.lt_succ_self _)
  refine g_aload_n (n := 20) hC rfl dX6_make_19 ?_
  refine g_getf (n := 23) (v := .int x) hC gf_X6_22 (m0) (w0) rfl dX6_make_20 ?_
  refine g_aload_n (n := 24) hC rfl dX6_make_23 ?_
  refine g_getf (n := 27) (v := .int y) hC gf_X6_26 (m0) (w0) rfl dX6_make_24 ?_
  refine g_icmp_ne (n := 30) (tgt := 50) hC dX6_make_27 (fun h27 => ?_) (fun h27 => ?_)
  ·
    refine g_aload_n (n := 51) hC rfl dX6_make_50 ?_
    refine g_aload_n (n := 52) hC rfl dX6_make_51 ?_
    refine g_getf (n := 55) (v := .ref (a + 1)) hC gf_X6_12 (m0) (w0) rfl dX6_make_52 ?_
    refine g_aload_n (n := 56) hC rfl dX6_make_55 ?_
    refine g_getf (n := 59) (v := .int x) hC gf_X6_22 (m0) (w0) rfl dX6_make_56 ?_
    refine g_iconst (n := 60) (v := (nI 1)) hC (by decide) dX6_make_59 ?_
    refine g_cV (n := 63) hC gv_X6_49 (m1) (w1) (X_give K m1 m2 (w1) (w2) hn (x := x) (s := 1) hx (by omega)) dX6_make_60 ?_
    refine g_aload_n (n := 64) hC rfl dX6_make_63 ?_
    refine g_getf (n := 67) (v := .ref (a + 1)) hC gf_X6_12 (m0) ((va_up_ne _ _ (by omega)).trans w0) rfl dX6_make_64 ?_
    refine g_aload_n (n := 68) hC rfl dX6_make_67 ?_
    refine g_getf (n := 71) (v := .int y) hC gf_X6_26 (m0) ((va_up_ne _ _ (by omega)).trans w0) rfl dX6_make_68 ?_
    refine g_iconst (n := 72) (v := (nI 2)) hC (by decide) dX6_make_71 ?_
    refine g_cV (n := 75) hC gv_X6_49 (m1) ((va_up_ne _ _ (by omega)).trans (w1.trans (psO_giv (n := w * h) (x := x) (s := 1) (f := fb) hn).symm)) (X_give K m1 m2 ((va_up_ne _ _ (by omega)).trans (w1.trans (psO_giv (n := w * h) (x := x) (s := 1) (f := fb) hn).symm)) (va_up_self _ _ _) hn (x := y) (s := 2) hy (by omega)) dX6_make_72 ?_
    refine G.eqs (show _ = va_up (psU K (va_up (σ) a (.inr (6, [.int x, .int y, .int (c 2), .int (c 3), .ref (a + 1), .long p, .ref (a + 3)]))) (a + 1) (w * h) fb) (a + 1 + 1) (lA K 6 (psS (w * h) (givF (w * h) y 2 (givF (w * h) x 1 fb)))) from bx_uu _ _ _ _) ?_
    refine g_lor (n := 76) hC dX6_make_75 ?_
    refine g_putf (n := 79) hC gp_X6_35 (m0) ((va_up_ne _ _ (by omega)).trans w0) dX6_make_76 ?_
    refine G.eqs (show _ = va_up (va_up (psU K (va_up (σ) a (.inr (6, [.int x, .int y, .int (c 2), .int (c 3), .ref (a + 1), .long p, .ref (a + 3)]))) (a + 1) (w * h) fb) (a + 1 + 1) (lA K 6 (psS (w * h) (givF (w * h) y 2 (givF (w * h) x 1 fb))))) a (.inr (6, [.int x, .int y, .int (c 2), .int (c 3), .ref (a + 1), .long ((givX x 1) ||| (givX y 2)), .ref (a + 3)])) from rfl) ?_
    refine G.eqs (show _ = rdU K σ a (w * h) (ccF x y c) (mkX x y s) u F from by rw [← rdU_cong (f := mkF (w * h) x y s fb) hF (show mkF (w * h) x y s fb 147 = _ by rw [mkF, if_neg h27]; exact (mk147 hn (Or.inl rfl)).trans hF1) (show mkF (w * h) x y s fb 148 = _ by rw [mkF, if_neg h27]; exact (mk147 hn (Or.inr rfl)).trans hF2)]; simp only [mkF, mkX, if_neg h27, cc_O]; exact mk_w1 s3 ((psO_giv hn).trans (psO_giv hn))) ?_
    exact lp79 
  ·
    refine g_aload_n (n := 31) hC rfl dX6_make_30 ?_
    refine g_aload_n (n := 32) hC rfl dX6_make_31 ?_
    refine g_getf (n := 35) (v := .ref (a + 1)) hC gf_X6_12 (m0) (w0) rfl dX6_make_32 ?_
    refine g_aload_n (n := 36) hC rfl dX6_make_35 ?_
    refine g_getf (n := 39) (v := .int x) hC gf_X6_22 (m0) (w0) rfl dX6_make_36 ?_
    refine g_iload (n := 41) hC rfl dX6_make_39 ?_
    refine g_cV (n := 44) hC gv_X6_49 (m1) (w1) (X_give K m1 m2 (w1) (w2) hn (x := x) (s := s) hx (hs5)) dX6_make_41 ?_
    refine g_putf (n := 47) hC gp_X6_35 (m0) ((va_up_ne _ _ (by omega)).trans w0) dX6_make_44 ?_
    refine G.eqs (show _ = va_up (va_up (psU K (va_up (σ) a (.inr (6, [.int x, .int y, .int (c 2), .int (c 3), .ref (a + 1), .long p, .ref (a + 3)]))) (a + 1) (w * h) fb) (a + 1 + 1) (lA K 6 (psS (w * h) (givF (w * h) x s fb)))) a (.inr (6, [.int x, .int y, .int (c 2), .int (c 3), .ref (a + 1), .long (givX x s), .ref (a + 3)])) from rfl) ?_
    refine g_goto (n := 79) hC dX6_make_47 ?_
    refine G.eqs (show _ = rdU K σ a (w * h) (ccF x y c) (mkX x y s) u F from by rw [← rdU_cong (f := mkF (w * h) x y s fb) hF (show mkF (w * h) x y s fb 147 = _ by rw [mkF, if_pos h27, givF]; split <;> first | exact hF1 | (rw [turF, if_neg (by omega)]; exact hF1)) (show mkF (w * h) x y s fb 148 = _ by rw [mkF, if_pos h27, givF]; split <;> first | exact hF2 | (rw [turF, if_neg (by omega)]; exact hF2))]; simp only [mkF, mkX, if_pos h27, cc_O]; exact mk_w1 s3 (psO_giv hn)) ?_
    exact lp79 
