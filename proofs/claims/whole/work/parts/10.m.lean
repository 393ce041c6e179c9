/-! ===== the reference as pure data: sc its numbers by field, ar its arrays by field ===== -/
noncomputable def bI (p : Prop) : Int32 := @ite _ p (Classical.propDecidable p) 1 0
theorem bI_t {p : Prop} (h : p) : bI p = 1 := if_pos h
theorem bI_f {p : Prop} (h : ¬ p) : bI p = 0 := if_neg h
theorem bI_0 {p : Prop} : bI p = 0 ↔ ¬ p := by
  by_cases h : p
  · rw [bI_t h]; simp [h]
  · rw [bI_f h]; simp [h]
theorem bI_n {p : Prop} : narrow .boolean (.int (bI p)) = .int (bI p) := by
  by_cases h : p
  · rw [bI_t h]; rfl
  · rw [bI_f h]; rfl
theorem bI_c {p q : Prop} (h : p ↔ q) : bI p = bI q := by rw [propext h]
theorem nI_inc (a : Nat) : nI a + Int32.ofInt 1 = nI (a + 1) := nI_1 a
theorem nI_inc4 (a : Nat) : nI a + Int32.ofInt 4 = nI (a + 4) := nI_add a 4
theorem nI_dec {a : Nat} (h : 1 ≤ a) : nI a + Int32.ofInt (-1) = nI (a - 1) := by
  obtain ⟨b, rfl⟩ : ∃ b, a = b + 1 := ⟨a - 1, by omega⟩
  exact pk_m1 b
def mfl (M : Nat) (sc : Nat → Int32) : List Value := [.int (sc 0), .int (sc 1), .int (sc 2), .int (sc 3), .ref (M + 1), .ref (M + 2), .ref (M + 3), .ref (M + 4), .ref (M + 5), .ref (M + 6), .ref (M + 7), .ref (M + 8), .ref (M + 9), .ref (M + 10), .ref (M + 11), .ref (M + 12), .int (sc 16), .int (sc 17), .int (sc 18), .int (sc 19), .ref (M + 13), .ref (M + 14), .int (sc 22), .int (sc 23), .int (sc 24), .ref (M + 15), .ref (M + 16), .int (sc 27), .ref (M + 17), .int (sc 29), .int (sc 30), .int (sc 31), .int (sc 32)]
def mdl (K : GK) (M : Nat) (sc : Nat → Int32) (ar : Nat → Nat → Int32) (σ0 : GS) : GS := fun a => if a = M then .inr (8, mfl M sc) else if a = M + 1 then iA K 2 (ar 4) else if a = M + 2 then iA K 155 (ar 5) else if a = M + 3 then iA K 155 (ar 6) else if a = M + 4 then iA K 155 (ar 7) else if a = M + 5 then iA K 9300 (ar 8) else if a = M + 6 then iA K 420 (ar 9) else if a = M + 7 then iA K 480 (ar 10) else if a = M + 8 then iA K 155 (ar 11) else if a = M + 9 then iA K 9300 (ar 12) else if a = M + 10 then iA K 420 (ar 13) else if a = M + 11 then iA K 480 (ar 14) else if a = M + 12 then iA K 2 (ar 15) else if a = M + 13 then iA K 98 (ar 20) else if a = M + 14 then iA K 8 (ar 21) else if a = M + 15 then iA K 4 (ar 25) else if a = M + 16 then iA K 4 (ar 26) else if a = M + 17 then cA K 80 (ar 28) else σ0 a
def mdom (M : Nat) (L : List Nat) : Prop := ∀ j, j < 18 → M + j ∈ L
section ML
variable {K : GK} {M : Nat} {sc : Nat → Int32} {ar : Nat → Nat → Int32} {σ0 : GS}
theorem mdl_0 : mdl K M sc ar σ0 M = .inr (8, mfl M sc) := if_pos rfl
theorem mdl_4 : mdl K M sc ar σ0 (M + 1) = iA K 2 (ar 4) := by simp [mdl]
theorem mdl_5 : mdl K M sc ar σ0 (M + 2) = iA K 155 (ar 5) := by simp [mdl]
theorem mdl_6 : mdl K M sc ar σ0 (M + 3) = iA K 155 (ar 6) := by simp [mdl]
theorem mdl_7 : mdl K M sc ar σ0 (M + 4) = iA K 155 (ar 7) := by simp [mdl]
theorem mdl_8 : mdl K M sc ar σ0 (M + 5) = iA K 9300 (ar 8) := by simp [mdl]
theorem mdl_9 : mdl K M sc ar σ0 (M + 6) = iA K 420 (ar 9) := by simp [mdl]
theorem mdl_10 : mdl K M sc ar σ0 (M + 7) = iA K 480 (ar 10) := by simp [mdl]
theorem mdl_11 : mdl K M sc ar σ0 (M + 8) = iA K 155 (ar 11) := by simp [mdl]
theorem mdl_12 : mdl K M sc ar σ0 (M + 9) = iA K 9300 (ar 12) := by simp [mdl]
theorem mdl_13 : mdl K M sc ar σ0 (M + 10) = iA K 420 (ar 13) := by simp [mdl]
theorem mdl_14 : mdl K M sc ar σ0 (M + 11) = iA K 480 (ar 14) := by simp [mdl]
theorem mdl_15 : mdl K M sc ar σ0 (M + 12) = iA K 2 (ar 15) := by simp [mdl]
theorem mdl_20 : mdl K M sc ar σ0 (M + 13) = iA K 98 (ar 20) := by simp [mdl]
theorem mdl_21 : mdl K M sc ar σ0 (M + 14) = iA K 8 (ar 21) := by simp [mdl]
theorem mdl_25 : mdl K M sc ar σ0 (M + 15) = iA K 4 (ar 25) := by simp [mdl]
theorem mdl_26 : mdl K M sc ar σ0 (M + 16) = iA K 4 (ar 26) := by simp [mdl]
theorem mdl_28 : mdl K M sc ar σ0 (M + 17) = cA K 80 (ar 28) := by simp [mdl]
theorem mdl_out {a : Nat} (h : a < M ∨ M + 18 ≤ a) : mdl K M sc ar σ0 a = σ0 a := by
  simp only [mdl]
  rw [if_neg (by omega), if_neg (by omega), if_neg (by omega), if_neg (by omega), if_neg (by omega), if_neg (by omega), if_neg (by omega), if_neg (by omega), if_neg (by omega), if_neg (by omega), if_neg (by omega), if_neg (by omega), if_neg (by omega), if_neg (by omega), if_neg (by omega), if_neg (by omega), if_neg (by omega), if_neg (by omega)]
theorem mdl_p0 {v : Int32} : va_up (mdl K M sc ar σ0) M (.inr (8, (mfl M sc).set 0 (.int v))) = mdl K M (va_up sc 0 v) ar σ0 := by
  funext a
  by_cases h : a = M
  · subst h
    rw [va_up_self, mdl_0]
    rfl
  · rw [va_up_ne _ _ h]
    simp only [mdl, h, if_false]
theorem mdl_p1 {v : Int32} : va_up (mdl K M sc ar σ0) M (.inr (8, (mfl M sc).set 1 (.int v))) = mdl K M (va_up sc 1 v) ar σ0 := by
  funext a
  by_cases h : a = M
  · subst h
    rw [va_up_self, mdl_0]
    rfl
  · rw [va_up_ne _ _ h]
    simp only [mdl, h, if_false]
theorem mdl_p2 {v : Int32} : va_up (mdl K M sc ar σ0) M (.inr (8, (mfl M sc).set 2 (.int v))) = mdl K M (va_up sc 2 v) ar σ0 := by
  funext a
  by_cases h : a = M
  · subst h
    rw [va_up_self, mdl_0]
    rfl
  · rw [va_up_ne _ _ h]
    simp only [mdl, h, if_false]
theorem mdl_p3 {v : Int32} : va_up (mdl K M sc ar σ0) M (.inr (8, (mfl M sc).set 3 (.int v))) = mdl K M (va_up sc 3 v) ar σ0 := by
  funext a
  by_cases h : a = M
  · subst h
    rw [va_up_self, mdl_0]
    rfl
  · rw [va_up_ne _ _ h]
    simp only [mdl, h, if_false]
theorem mdl_p16 {v : Int32} : va_up (mdl K M sc ar σ0) M (.inr (8, (mfl M sc).set 16 (.int v))) = mdl K M (va_up sc 16 v) ar σ0 := by
  funext a
  by_cases h : a = M
  · subst h
    rw [va_up_self, mdl_0]
    rfl
  · rw [va_up_ne _ _ h]
    simp only [mdl, h, if_false]
theorem mdl_p17 {v : Int32} : va_up (mdl K M sc ar σ0) M (.inr (8, (mfl M sc).set 17 (.int v))) = mdl K M (va_up sc 17 v) ar σ0 := by
  funext a
  by_cases h : a = M
  · subst h
    rw [va_up_self, mdl_0]
    rfl
  · rw [va_up_ne _ _ h]
    simp only [mdl, h, if_false]
theorem mdl_p18 {v : Int32} : va_up (mdl K M sc ar σ0) M (.inr (8, (mfl M sc).set 18 (.int v))) = mdl K M (va_up sc 18 v) ar σ0 := by
  funext a
  by_cases h : a = M
  · subst h
    rw [va_up_self, mdl_0]
    rfl
  · rw [va_up_ne _ _ h]
    simp only [mdl, h, if_false]
theorem mdl_p19 {v : Int32} : va_up (mdl K M sc ar σ0) M (.inr (8, (mfl M sc).set 19 (.int v))) = mdl K M (va_up sc 19 v) ar σ0 := by
  funext a
  by_cases h : a = M
  · subst h
    rw [va_up_self, mdl_0]
    rfl
  · rw [va_up_ne _ _ h]
    simp only [mdl, h, if_false]
theorem mdl_p22 {v : Int32} : va_up (mdl K M sc ar σ0) M (.inr (8, (mfl M sc).set 22 (.int v))) = mdl K M (va_up sc 22 v) ar σ0 := by
  funext a
  by_cases h : a = M
  · subst h
    rw [va_up_self, mdl_0]
    rfl
  · rw [va_up_ne _ _ h]
    simp only [mdl, h, if_false]
theorem mdl_p23 {v : Int32} : va_up (mdl K M sc ar σ0) M (.inr (8, (mfl M sc).set 23 (.int v))) = mdl K M (va_up sc 23 v) ar σ0 := by
  funext a
  by_cases h : a = M
  · subst h
    rw [va_up_self, mdl_0]
    rfl
  · rw [va_up_ne _ _ h]
    simp only [mdl, h, if_false]
theorem mdl_p24 {v : Int32} : va_up (mdl K M sc ar σ0) M (.inr (8, (mfl M sc).set 24 (.int v))) = mdl K M (va_up sc 24 v) ar σ0 := by
  funext a
  by_cases h : a = M
  · subst h
    rw [va_up_self, mdl_0]
    rfl
  · rw [va_up_ne _ _ h]
    simp only [mdl, h, if_false]
theorem mdl_p27 {v : Int32} : va_up (mdl K M sc ar σ0) M (.inr (8, (mfl M sc).set 27 (.int v))) = mdl K M (va_up sc 27 v) ar σ0 := by
  funext a
  by_cases h : a = M
  · subst h
    rw [va_up_self, mdl_0]
    rfl
  · rw [va_up_ne _ _ h]
    simp only [mdl, h, if_false]
theorem mdl_p29 {v : Int32} : va_up (mdl K M sc ar σ0) M (.inr (8, (mfl M sc).set 29 (.int v))) = mdl K M (va_up sc 29 v) ar σ0 := by
  funext a
  by_cases h : a = M
  · subst h
    rw [va_up_self, mdl_0]
    rfl
  · rw [va_up_ne _ _ h]
    simp only [mdl, h, if_false]
theorem mdl_p30 {v : Int32} : va_up (mdl K M sc ar σ0) M (.inr (8, (mfl M sc).set 30 (.int v))) = mdl K M (va_up sc 30 v) ar σ0 := by
  funext a
  by_cases h : a = M
  · subst h
    rw [va_up_self, mdl_0]
    rfl
  · rw [va_up_ne _ _ h]
    simp only [mdl, h, if_false]
theorem mdl_p31 {v : Int32} : va_up (mdl K M sc ar σ0) M (.inr (8, (mfl M sc).set 31 (.int v))) = mdl K M (va_up sc 31 v) ar σ0 := by
  funext a
  by_cases h : a = M
  · subst h
    rw [va_up_self, mdl_0]
    rfl
  · rw [va_up_ne _ _ h]
    simp only [mdl, h, if_false]
theorem mdl_p32 {v : Int32} : va_up (mdl K M sc ar σ0) M (.inr (8, (mfl M sc).set 32 (.int v))) = mdl K M (va_up sc 32 v) ar σ0 := by
  funext a
  by_cases h : a = M
  · subst h
    rw [va_up_self, mdl_0]
    rfl
  · rw [va_up_ne _ _ h]
    simp only [mdl, h, if_false]
theorem mdl_s4 {f : Nat → Int32} : va_up (mdl K M sc ar σ0) (M + 1) (iA K 2 f) = mdl K M sc (va_up ar 4 f) σ0 := by
  funext a
  by_cases h : a = M + 1
  · subst h
    rw [va_up_self, mdl_4]
    rfl
  · rw [va_up_ne _ _ h]
    simp only [mdl, h, if_false]
    rfl
theorem mdl_s5 {f : Nat → Int32} : va_up (mdl K M sc ar σ0) (M + 2) (iA K 155 f) = mdl K M sc (va_up ar 5 f) σ0 := by
  funext a
  by_cases h : a = M + 2
  · subst h
    rw [va_up_self, mdl_5]
    rfl
  · rw [va_up_ne _ _ h]
    simp only [mdl, h, if_false]
    rfl
theorem mdl_s6 {f : Nat → Int32} : va_up (mdl K M sc ar σ0) (M + 3) (iA K 155 f) = mdl K M sc (va_up ar 6 f) σ0 := by
  funext a
  by_cases h : a = M + 3
  · subst h
    rw [va_up_self, mdl_6]
    rfl
  · rw [va_up_ne _ _ h]
    simp only [mdl, h, if_false]
    rfl
theorem mdl_s7 {f : Nat → Int32} : va_up (mdl K M sc ar σ0) (M + 4) (iA K 155 f) = mdl K M sc (va_up ar 7 f) σ0 := by
  funext a
  by_cases h : a = M + 4
  · subst h
    rw [va_up_self, mdl_7]
    rfl
  · rw [va_up_ne _ _ h]
    simp only [mdl, h, if_false]
    rfl
theorem mdl_s8 {f : Nat → Int32} : va_up (mdl K M sc ar σ0) (M + 5) (iA K 9300 f) = mdl K M sc (va_up ar 8 f) σ0 := by
  funext a
  by_cases h : a = M + 5
  · subst h
    rw [va_up_self, mdl_8]
    rfl
  · rw [va_up_ne _ _ h]
    simp only [mdl, h, if_false]
    rfl
theorem mdl_s9 {f : Nat → Int32} : va_up (mdl K M sc ar σ0) (M + 6) (iA K 420 f) = mdl K M sc (va_up ar 9 f) σ0 := by
  funext a
  by_cases h : a = M + 6
  · subst h
    rw [va_up_self, mdl_9]
    rfl
  · rw [va_up_ne _ _ h]
    simp only [mdl, h, if_false]
    rfl
theorem mdl_s10 {f : Nat → Int32} : va_up (mdl K M sc ar σ0) (M + 7) (iA K 480 f) = mdl K M sc (va_up ar 10 f) σ0 := by
  funext a
  by_cases h : a = M + 7
  · subst h
    rw [va_up_self, mdl_10]
    rfl
  · rw [va_up_ne _ _ h]
    simp only [mdl, h, if_false]
    rfl
theorem mdl_s11 {f : Nat → Int32} : va_up (mdl K M sc ar σ0) (M + 8) (iA K 155 f) = mdl K M sc (va_up ar 11 f) σ0 := by
  funext a
  by_cases h : a = M + 8
  · subst h
    rw [va_up_self, mdl_11]
    rfl
  · rw [va_up_ne _ _ h]
    simp only [mdl, h, if_false]
    rfl
theorem mdl_s12 {f : Nat → Int32} : va_up (mdl K M sc ar σ0) (M + 9) (iA K 9300 f) = mdl K M sc (va_up ar 12 f) σ0 := by
  funext a
  by_cases h : a = M + 9
  · subst h
    rw [va_up_self, mdl_12]
    rfl
  · rw [va_up_ne _ _ h]
    simp only [mdl, h, if_false]
    rfl
theorem mdl_s13 {f : Nat → Int32} : va_up (mdl K M sc ar σ0) (M + 10) (iA K 420 f) = mdl K M sc (va_up ar 13 f) σ0 := by
  funext a
  by_cases h : a = M + 10
  · subst h
    rw [va_up_self, mdl_13]
    rfl
  · rw [va_up_ne _ _ h]
    simp only [mdl, h, if_false]
    rfl
theorem mdl_s14 {f : Nat → Int32} : va_up (mdl K M sc ar σ0) (M + 11) (iA K 480 f) = mdl K M sc (va_up ar 14 f) σ0 := by
  funext a
  by_cases h : a = M + 11
  · subst h
    rw [va_up_self, mdl_14]
    rfl
  · rw [va_up_ne _ _ h]
    simp only [mdl, h, if_false]
    rfl
theorem mdl_s15 {f : Nat → Int32} : va_up (mdl K M sc ar σ0) (M + 12) (iA K 2 f) = mdl K M sc (va_up ar 15 f) σ0 := by
  funext a
  by_cases h : a = M + 12
  · subst h
    rw [va_up_self, mdl_15]
    rfl
  · rw [va_up_ne _ _ h]
    simp only [mdl, h, if_false]
    rfl
theorem mdl_s20 {f : Nat → Int32} : va_up (mdl K M sc ar σ0) (M + 13) (iA K 98 f) = mdl K M sc (va_up ar 20 f) σ0 := by
  funext a
  by_cases h : a = M + 13
  · subst h
    rw [va_up_self, mdl_20]
    rfl
  · rw [va_up_ne _ _ h]
    simp only [mdl, h, if_false]
    rfl
theorem mdl_s21 {f : Nat → Int32} : va_up (mdl K M sc ar σ0) (M + 14) (iA K 8 f) = mdl K M sc (va_up ar 21 f) σ0 := by
  funext a
  by_cases h : a = M + 14
  · subst h
    rw [va_up_self, mdl_21]
    rfl
  · rw [va_up_ne _ _ h]
    simp only [mdl, h, if_false]
    rfl
theorem mdl_s25 {f : Nat → Int32} : va_up (mdl K M sc ar σ0) (M + 15) (iA K 4 f) = mdl K M sc (va_up ar 25 f) σ0 := by
  funext a
  by_cases h : a = M + 15
  · subst h
    rw [va_up_self, mdl_25]
    rfl
  · rw [va_up_ne _ _ h]
    simp only [mdl, h, if_false]
    rfl
theorem mdl_s26 {f : Nat → Int32} : va_up (mdl K M sc ar σ0) (M + 16) (iA K 4 f) = mdl K M sc (va_up ar 26 f) σ0 := by
  funext a
  by_cases h : a = M + 16
  · subst h
    rw [va_up_self, mdl_26]
    rfl
  · rw [va_up_ne _ _ h]
    simp only [mdl, h, if_false]
    rfl
theorem mdl_s28 {f : Nat → Int32} : va_up (mdl K M sc ar σ0) (M + 17) (cA K 80 f) = mdl K M sc (va_up ar 28 f) σ0 := by
  funext a
  by_cases h : a = M + 17
  · subst h
    rw [va_up_self, mdl_28]
    rfl
  · rw [va_up_ne _ _ h]
    simp only [mdl, h, if_false]
    rfl
theorem mdl_uu {k : Nat} {a b : Nat → Int32} : mdl K M sc (va_up (va_up ar k a) k b) σ0 = mdl K M sc (va_up ar k b) σ0 := by rw [bx_uu]
theorem mdl_ss {k : Nat} {a b : Int32} : mdl K M (va_up (va_up sc k a) k b) ar σ0 = mdl K M (va_up sc k b) ar σ0 := by rw [bx_uu]
end ML
section MR
variable {K : GK} {Γ : GX} {cc : ByteArray} {nL d mc ms : Nat} {own mn : String} {rt : Option FieldType} {Po : GP} {ω : GO} {σ : GS} {pc n : Nat} {ll ll1 : List (Option Value)} {r : List Value} {M : Nat} {sc : Nat → Int32} {ar : Nat → Nat → Int32} {σ0 : GS}
theorem m_get (hC : gC K Γ cc nL own mn d mc ms rt Po) (hD : mdom M ω.2.2.2) {index k : Nat} {v : Value} (hF : gFld own index 8 k) (hd : decode cc pc = .ok (.getfield index, 3)) (hv : (mfl M sc)[k]? = some v) (kk : G K Γ ω (mdl K M sc ar σ0) n ll (v :: r)) (hn : n = pc + 3 := by rfl) : G K Γ ω (mdl K M sc ar σ0) pc ll (.ref M :: r) :=
  g_getf hC hF (hD 0 (by decide)) mdl_0 hv hd kk hn
theorem m_put0 (hC : gC K Γ cc nL own mn d mc ms rt Po) (hD : mdom M ω.2.2.2) {index : Nat} {v : Int32} (hF : gPut own index 8 0 false .int) (hd : decode cc pc = .ok (.putfield index, 3)) (kk : G K Γ ω (mdl K M (va_up sc 0 v) ar σ0) n ll r) (hn : n = pc + 3 := by rfl) : G K Γ ω (mdl K M sc ar σ0) pc ll (.int v :: .ref M :: r) := by
  subst hn
  exact g_putf hC hF (hD 0 (by decide)) mdl_0 hd (G.eqs mdl_p0 kk) (by simp [mfl]) (by rfl) (by rfl)
theorem m_put1 (hC : gC K Γ cc nL own mn d mc ms rt Po) (hD : mdom M ω.2.2.2) {index : Nat} {v : Int32} (hF : gPut own index 8 1 false .int) (hd : decode cc pc = .ok (.putfield index, 3)) (kk : G K Γ ω (mdl K M (va_up sc 1 v) ar σ0) n ll r) (hn : n = pc + 3 := by rfl) : G K Γ ω (mdl K M sc ar σ0) pc ll (.int v :: .ref M :: r) := by
  subst hn
  exact g_putf hC hF (hD 0 (by decide)) mdl_0 hd (G.eqs mdl_p1 kk) (by simp [mfl]) (by rfl) (by rfl)
theorem m_put2 (hC : gC K Γ cc nL own mn d mc ms rt Po) (hD : mdom M ω.2.2.2) {index : Nat} {v : Int32} (hF : gPut own index 8 2 false .int) (hd : decode cc pc = .ok (.putfield index, 3)) (kk : G K Γ ω (mdl K M (va_up sc 2 v) ar σ0) n ll r) (hn : n = pc + 3 := by rfl) : G K Γ ω (mdl K M sc ar σ0) pc ll (.int v :: .ref M :: r) := by
  subst hn
  exact g_putf hC hF (hD 0 (by decide)) mdl_0 hd (G.eqs mdl_p2 kk) (by simp [mfl]) (by rfl) (by rfl)
theorem m_put3 (hC : gC K Γ cc nL own mn d mc ms rt Po) (hD : mdom M ω.2.2.2) {index : Nat} {v : Int32} (hF : gPut own index 8 3 false .int) (hd : decode cc pc = .ok (.putfield index, 3)) (kk : G K Γ ω (mdl K M (va_up sc 3 v) ar σ0) n ll r) (hn : n = pc + 3 := by rfl) : G K Γ ω (mdl K M sc ar σ0) pc ll (.int v :: .ref M :: r) := by
  subst hn
  exact g_putf hC hF (hD 0 (by decide)) mdl_0 hd (G.eqs mdl_p3 kk) (by simp [mfl]) (by rfl) (by rfl)
theorem m_put16 (hC : gC K Γ cc nL own mn d mc ms rt Po) (hD : mdom M ω.2.2.2) {index : Nat} {v : Int32} (hF : gPut own index 8 16 false .int) (hd : decode cc pc = .ok (.putfield index, 3)) (kk : G K Γ ω (mdl K M (va_up sc 16 v) ar σ0) n ll r) (hn : n = pc + 3 := by rfl) : G K Γ ω (mdl K M sc ar σ0) pc ll (.int v :: .ref M :: r) := by
  subst hn
  exact g_putf hC hF (hD 0 (by decide)) mdl_0 hd (G.eqs mdl_p16 kk) (by simp [mfl]) (by rfl) (by rfl)
theorem m_put17 (hC : gC K Γ cc nL own mn d mc ms rt Po) (hD : mdom M ω.2.2.2) {index : Nat} {v : Int32} (hF : gPut own index 8 17 false .int) (hd : decode cc pc = .ok (.putfield index, 3)) (kk : G K Γ ω (mdl K M (va_up sc 17 v) ar σ0) n ll r) (hn : n = pc + 3 := by rfl) : G K Γ ω (mdl K M sc ar σ0) pc ll (.int v :: .ref M :: r) := by
  subst hn
  exact g_putf hC hF (hD 0 (by decide)) mdl_0 hd (G.eqs mdl_p17 kk) (by simp [mfl]) (by rfl) (by rfl)
theorem m_put18 (hC : gC K Γ cc nL own mn d mc ms rt Po) (hD : mdom M ω.2.2.2) {index : Nat} {v : Int32} (hF : gPut own index 8 18 false .int) (hd : decode cc pc = .ok (.putfield index, 3)) (kk : G K Γ ω (mdl K M (va_up sc 18 v) ar σ0) n ll r) (hn : n = pc + 3 := by rfl) : G K Γ ω (mdl K M sc ar σ0) pc ll (.int v :: .ref M :: r) := by
  subst hn
  exact g_putf hC hF (hD 0 (by decide)) mdl_0 hd (G.eqs mdl_p18 kk) (by simp [mfl]) (by rfl) (by rfl)
theorem m_put19 (hC : gC K Γ cc nL own mn d mc ms rt Po) (hD : mdom M ω.2.2.2) {index : Nat} {v : Int32} (hb : narrow .boolean (.int v) = .int v ∧ fits .boolean (.int v) = true) (hF : gPut own index 8 19 false .boolean) (hd : decode cc pc = .ok (.putfield index, 3)) (kk : G K Γ ω (mdl K M (va_up sc 19 v) ar σ0) n ll r) (hn : n = pc + 3 := by rfl) : G K Γ ω (mdl K M sc ar σ0) pc ll (.int v :: .ref M :: r) := by
  subst hn
  exact g_putf hC hF (hD 0 (by decide)) mdl_0 hd (G.eqs mdl_p19 kk) (by simp [mfl]) hb.1 hb.2
theorem m_put22 (hC : gC K Γ cc nL own mn d mc ms rt Po) (hD : mdom M ω.2.2.2) {index : Nat} {v : Int32} (hF : gPut own index 8 22 false .int) (hd : decode cc pc = .ok (.putfield index, 3)) (kk : G K Γ ω (mdl K M (va_up sc 22 v) ar σ0) n ll r) (hn : n = pc + 3 := by rfl) : G K Γ ω (mdl K M sc ar σ0) pc ll (.int v :: .ref M :: r) := by
  subst hn
  exact g_putf hC hF (hD 0 (by decide)) mdl_0 hd (G.eqs mdl_p22 kk) (by simp [mfl]) (by rfl) (by rfl)
theorem m_put23 (hC : gC K Γ cc nL own mn d mc ms rt Po) (hD : mdom M ω.2.2.2) {index : Nat} {v : Int32} (hF : gPut own index 8 23 false .int) (hd : decode cc pc = .ok (.putfield index, 3)) (kk : G K Γ ω (mdl K M (va_up sc 23 v) ar σ0) n ll r) (hn : n = pc + 3 := by rfl) : G K Γ ω (mdl K M sc ar σ0) pc ll (.int v :: .ref M :: r) := by
  subst hn
  exact g_putf hC hF (hD 0 (by decide)) mdl_0 hd (G.eqs mdl_p23 kk) (by simp [mfl]) (by rfl) (by rfl)
theorem m_put24 (hC : gC K Γ cc nL own mn d mc ms rt Po) (hD : mdom M ω.2.2.2) {index : Nat} {v : Int32} (hF : gPut own index 8 24 false .int) (hd : decode cc pc = .ok (.putfield index, 3)) (kk : G K Γ ω (mdl K M (va_up sc 24 v) ar σ0) n ll r) (hn : n = pc + 3 := by rfl) : G K Γ ω (mdl K M sc ar σ0) pc ll (.int v :: .ref M :: r) := by
  subst hn
  exact g_putf hC hF (hD 0 (by decide)) mdl_0 hd (G.eqs mdl_p24 kk) (by simp [mfl]) (by rfl) (by rfl)
theorem m_put27 (hC : gC K Γ cc nL own mn d mc ms rt Po) (hD : mdom M ω.2.2.2) {index : Nat} {v : Int32} (hF : gPut own index 8 27 false .int) (hd : decode cc pc = .ok (.putfield index, 3)) (kk : G K Γ ω (mdl K M (va_up sc 27 v) ar σ0) n ll r) (hn : n = pc + 3 := by rfl) : G K Γ ω (mdl K M sc ar σ0) pc ll (.int v :: .ref M :: r) := by
  subst hn
  exact g_putf hC hF (hD 0 (by decide)) mdl_0 hd (G.eqs mdl_p27 kk) (by simp [mfl]) (by rfl) (by rfl)
theorem m_put29 (hC : gC K Γ cc nL own mn d mc ms rt Po) (hD : mdom M ω.2.2.2) {index : Nat} {v : Int32} (hF : gPut own index 8 29 false .int) (hd : decode cc pc = .ok (.putfield index, 3)) (kk : G K Γ ω (mdl K M (va_up sc 29 v) ar σ0) n ll r) (hn : n = pc + 3 := by rfl) : G K Γ ω (mdl K M sc ar σ0) pc ll (.int v :: .ref M :: r) := by
  subst hn
  exact g_putf hC hF (hD 0 (by decide)) mdl_0 hd (G.eqs mdl_p29 kk) (by simp [mfl]) (by rfl) (by rfl)
theorem m_put30 (hC : gC K Γ cc nL own mn d mc ms rt Po) (hD : mdom M ω.2.2.2) {index : Nat} {v : Int32} (hF : gPut own index 8 30 false .int) (hd : decode cc pc = .ok (.putfield index, 3)) (kk : G K Γ ω (mdl K M (va_up sc 30 v) ar σ0) n ll r) (hn : n = pc + 3 := by rfl) : G K Γ ω (mdl K M sc ar σ0) pc ll (.int v :: .ref M :: r) := by
  subst hn
  exact g_putf hC hF (hD 0 (by decide)) mdl_0 hd (G.eqs mdl_p30 kk) (by simp [mfl]) (by rfl) (by rfl)
theorem m_put31 (hC : gC K Γ cc nL own mn d mc ms rt Po) (hD : mdom M ω.2.2.2) {index : Nat} {v : Int32} (hF : gPut own index 8 31 false .int) (hd : decode cc pc = .ok (.putfield index, 3)) (kk : G K Γ ω (mdl K M (va_up sc 31 v) ar σ0) n ll r) (hn : n = pc + 3 := by rfl) : G K Γ ω (mdl K M sc ar σ0) pc ll (.int v :: .ref M :: r) := by
  subst hn
  exact g_putf hC hF (hD 0 (by decide)) mdl_0 hd (G.eqs mdl_p31 kk) (by simp [mfl]) (by rfl) (by rfl)
theorem m_put32 (hC : gC K Γ cc nL own mn d mc ms rt Po) (hD : mdom M ω.2.2.2) {index : Nat} {v : Int32} (hF : gPut own index 8 32 false .int) (hd : decode cc pc = .ok (.putfield index, 3)) (kk : G K Γ ω (mdl K M (va_up sc 32 v) ar σ0) n ll r) (hn : n = pc + 3 := by rfl) : G K Γ ω (mdl K M sc ar σ0) pc ll (.int v :: .ref M :: r) := by
  subst hn
  exact g_putf hC hF (hD 0 (by decide)) mdl_0 hd (G.eqs mdl_p32 kk) (by simp [mfl]) (by rfl) (by rfl)
theorem m_ld4 (hC : gC K Γ cc nL own mn d mc ms rt Po) (hD : mdom M ω.2.2.2) {i x : Int32} (j : Nat) (hd : decode cc pc = .ok (.iaload, 1)) (hi : i = nI j) (hj : j < 2) (hx : ar 4 j = x) (kk : G K Γ ω (mdl K M sc ar σ0) n ll (.int x :: r)) (hn : n = pc + 1 := by rfl) : G K Γ ω (mdl K M sc ar σ0) pc ll (.int i :: .ref (M + 1) :: r) := by
  subst hx
  exact g_iald hC (hD 1 (by decide)) mdl_4 hi hj (by decide) hd kk hn
theorem m_st4 (hC : gC K Γ cc nL own mn d mc ms rt Po) (hD : mdom M ω.2.2.2) {i x : Int32} {f : Nat → Int32} (j : Nat) (hd : decode cc pc = .ok (.iastore, 1)) (hi : i = nI j) (hj : j < 2) (hf : ar 4 = f) (kk : G K Γ ω (mdl K M sc (va_up ar 4 (va_up f j x)) σ0) n ll r) (hn : n = pc + 1 := by rfl) : G K Γ ω (mdl K M sc ar σ0) pc ll (.int x :: .int i :: .ref (M + 1) :: r) := by
  subst hf
  exact g_iast hC (hD 1 (by decide)) mdl_4 hi hj (by decide) hd (G.eqs mdl_s4 kk) hn
theorem m_ld5 (hC : gC K Γ cc nL own mn d mc ms rt Po) (hD : mdom M ω.2.2.2) {i x : Int32} (j : Nat) (hd : decode cc pc = .ok (.iaload, 1)) (hi : i = nI j) (hj : j < 155) (hx : ar 5 j = x) (kk : G K Γ ω (mdl K M sc ar σ0) n ll (.int x :: r)) (hn : n = pc + 1 := by rfl) : G K Γ ω (mdl K M sc ar σ0) pc ll (.int i :: .ref (M + 2) :: r) := by
  subst hx
  exact g_iald hC (hD 2 (by decide)) mdl_5 hi hj (by decide) hd kk hn
theorem m_st5 (hC : gC K Γ cc nL own mn d mc ms rt Po) (hD : mdom M ω.2.2.2) {i x : Int32} {f : Nat → Int32} (j : Nat) (hd : decode cc pc = .ok (.iastore, 1)) (hi : i = nI j) (hj : j < 155) (hf : ar 5 = f) (kk : G K Γ ω (mdl K M sc (va_up ar 5 (va_up f j x)) σ0) n ll r) (hn : n = pc + 1 := by rfl) : G K Γ ω (mdl K M sc ar σ0) pc ll (.int x :: .int i :: .ref (M + 2) :: r) := by
  subst hf
  exact g_iast hC (hD 2 (by decide)) mdl_5 hi hj (by decide) hd (G.eqs mdl_s5 kk) hn
theorem m_ld6 (hC : gC K Γ cc nL own mn d mc ms rt Po) (hD : mdom M ω.2.2.2) {i x : Int32} (j : Nat) (hd : decode cc pc = .ok (.iaload, 1)) (hi : i = nI j) (hj : j < 155) (hx : ar 6 j = x) (kk : G K Γ ω (mdl K M sc ar σ0) n ll (.int x :: r)) (hn : n = pc + 1 := by rfl) : G K Γ ω (mdl K M sc ar σ0) pc ll (.int i :: .ref (M + 3) :: r) := by
  subst hx
  exact g_iald hC (hD 3 (by decide)) mdl_6 hi hj (by decide) hd kk hn
theorem m_st6 (hC : gC K Γ cc nL own mn d mc ms rt Po) (hD : mdom M ω.2.2.2) {i x : Int32} {f : Nat → Int32} (j : Nat) (hd : decode cc pc = .ok (.iastore, 1)) (hi : i = nI j) (hj : j < 155) (hf : ar 6 = f) (kk : G K Γ ω (mdl K M sc (va_up ar 6 (va_up f j x)) σ0) n ll r) (hn : n = pc + 1 := by rfl) : G K Γ ω (mdl K M sc ar σ0) pc ll (.int x :: .int i :: .ref (M + 3) :: r) := by
  subst hf
  exact g_iast hC (hD 3 (by decide)) mdl_6 hi hj (by decide) hd (G.eqs mdl_s6 kk) hn
theorem m_ld7 (hC : gC K Γ cc nL own mn d mc ms rt Po) (hD : mdom M ω.2.2.2) {i x : Int32} (j : Nat) (hd : decode cc pc = .ok (.iaload, 1)) (hi : i = nI j) (hj : j < 155) (hx : ar 7 j = x) (kk : G K Γ ω (mdl K M sc ar σ0) n ll (.int x :: r)) (hn : n = pc + 1 := by rfl) : G K Γ ω (mdl K M sc ar σ0) pc ll (.int i :: .ref (M + 4) :: r) := by
  subst hx
  exact g_iald hC (hD 4 (by decide)) mdl_7 hi hj (by decide) hd kk hn
theorem m_st7 (hC : gC K Γ cc nL own mn d mc ms rt Po) (hD : mdom M ω.2.2.2) {i x : Int32} {f : Nat → Int32} (j : Nat) (hd : decode cc pc = .ok (.iastore, 1)) (hi : i = nI j) (hj : j < 155) (hf : ar 7 = f) (kk : G K Γ ω (mdl K M sc (va_up ar 7 (va_up f j x)) σ0) n ll r) (hn : n = pc + 1 := by rfl) : G K Γ ω (mdl K M sc ar σ0) pc ll (.int x :: .int i :: .ref (M + 4) :: r) := by
  subst hf
  exact g_iast hC (hD 4 (by decide)) mdl_7 hi hj (by decide) hd (G.eqs mdl_s7 kk) hn
theorem m_ld8 (hC : gC K Γ cc nL own mn d mc ms rt Po) (hD : mdom M ω.2.2.2) {i x : Int32} (j : Nat) (hd : decode cc pc = .ok (.iaload, 1)) (hi : i = nI j) (hj : j < 9300) (hx : ar 8 j = x) (kk : G K Γ ω (mdl K M sc ar σ0) n ll (.int x :: r)) (hn : n = pc + 1 := by rfl) : G K Γ ω (mdl K M sc ar σ0) pc ll (.int i :: .ref (M + 5) :: r) := by
  subst hx
  exact g_iald hC (hD 5 (by decide)) mdl_8 hi hj (by decide) hd kk hn
theorem m_st8 (hC : gC K Γ cc nL own mn d mc ms rt Po) (hD : mdom M ω.2.2.2) {i x : Int32} {f : Nat → Int32} (j : Nat) (hd : decode cc pc = .ok (.iastore, 1)) (hi : i = nI j) (hj : j < 9300) (hf : ar 8 = f) (kk : G K Γ ω (mdl K M sc (va_up ar 8 (va_up f j x)) σ0) n ll r) (hn : n = pc + 1 := by rfl) : G K Γ ω (mdl K M sc ar σ0) pc ll (.int x :: .int i :: .ref (M + 5) :: r) := by
  subst hf
  exact g_iast hC (hD 5 (by decide)) mdl_8 hi hj (by decide) hd (G.eqs mdl_s8 kk) hn
theorem m_ld9 (hC : gC K Γ cc nL own mn d mc ms rt Po) (hD : mdom M ω.2.2.2) {i x : Int32} (j : Nat) (hd : decode cc pc = .ok (.iaload, 1)) (hi : i = nI j) (hj : j < 420) (hx : ar 9 j = x) (kk : G K Γ ω (mdl K M sc ar σ0) n ll (.int x :: r)) (hn : n = pc + 1 := by rfl) : G K Γ ω (mdl K M sc ar σ0) pc ll (.int i :: .ref (M + 6) :: r) := by
  subst hx
  exact g_iald hC (hD 6 (by decide)) mdl_9 hi hj (by decide) hd kk hn
theorem m_st9 (hC : gC K Γ cc nL own mn d mc ms rt Po) (hD : mdom M ω.2.2.2) {i x : Int32} {f : Nat → Int32} (j : Nat) (hd : decode cc pc = .ok (.iastore, 1)) (hi : i = nI j) (hj : j < 420) (hf : ar 9 = f) (kk : G K Γ ω (mdl K M sc (va_up ar 9 (va_up f j x)) σ0) n ll r) (hn : n = pc + 1 := by rfl) : G K Γ ω (mdl K M sc ar σ0) pc ll (.int x :: .int i :: .ref (M + 6) :: r) := by
  subst hf
  exact g_iast hC (hD 6 (by decide)) mdl_9 hi hj (by decide) hd (G.eqs mdl_s9 kk) hn
theorem m_ld10 (hC : gC K Γ cc nL own mn d mc ms rt Po) (hD : mdom M ω.2.2.2) {i x : Int32} (j : Nat) (hd : decode cc pc = .ok (.iaload, 1)) (hi : i = nI j) (hj : j < 480) (hx : ar 10 j = x) (kk : G K Γ ω (mdl K M sc ar σ0) n ll (.int x :: r)) (hn : n = pc + 1 := by rfl) : G K Γ ω (mdl K M sc ar σ0) pc ll (.int i :: .ref (M + 7) :: r) := by
  subst hx
  exact g_iald hC (hD 7 (by decide)) mdl_10 hi hj (by decide) hd kk hn
theorem m_st10 (hC : gC K Γ cc nL own mn d mc ms rt Po) (hD : mdom M ω.2.2.2) {i x : Int32} {f : Nat → Int32} (j : Nat) (hd : decode cc pc = .ok (.iastore, 1)) (hi : i = nI j) (hj : j < 480) (hf : ar 10 = f) (kk : G K Γ ω (mdl K M sc (va_up ar 10 (va_up f j x)) σ0) n ll r) (hn : n = pc + 1 := by rfl) : G K Γ ω (mdl K M sc ar σ0) pc ll (.int x :: .int i :: .ref (M + 7) :: r) := by
  subst hf
  exact g_iast hC (hD 7 (by decide)) mdl_10 hi hj (by decide) hd (G.eqs mdl_s10 kk) hn
theorem m_ld11 (hC : gC K Γ cc nL own mn d mc ms rt Po) (hD : mdom M ω.2.2.2) {i x : Int32} (j : Nat) (hd : decode cc pc = .ok (.iaload, 1)) (hi : i = nI j) (hj : j < 155) (hx : ar 11 j = x) (kk : G K Γ ω (mdl K M sc ar σ0) n ll (.int x :: r)) (hn : n = pc + 1 := by rfl) : G K Γ ω (mdl K M sc ar σ0) pc ll (.int i :: .ref (M + 8) :: r) := by
  subst hx
  exact g_iald hC (hD 8 (by decide)) mdl_11 hi hj (by decide) hd kk hn
theorem m_st11 (hC : gC K Γ cc nL own mn d mc ms rt Po) (hD : mdom M ω.2.2.2) {i x : Int32} {f : Nat → Int32} (j : Nat) (hd : decode cc pc = .ok (.iastore, 1)) (hi : i = nI j) (hj : j < 155) (hf : ar 11 = f) (kk : G K Γ ω (mdl K M sc (va_up ar 11 (va_up f j x)) σ0) n ll r) (hn : n = pc + 1 := by rfl) : G K Γ ω (mdl K M sc ar σ0) pc ll (.int x :: .int i :: .ref (M + 8) :: r) := by
  subst hf
  exact g_iast hC (hD 8 (by decide)) mdl_11 hi hj (by decide) hd (G.eqs mdl_s11 kk) hn
theorem m_ld12 (hC : gC K Γ cc nL own mn d mc ms rt Po) (hD : mdom M ω.2.2.2) {i x : Int32} (j : Nat) (hd : decode cc pc = .ok (.iaload, 1)) (hi : i = nI j) (hj : j < 9300) (hx : ar 12 j = x) (kk : G K Γ ω (mdl K M sc ar σ0) n ll (.int x :: r)) (hn : n = pc + 1 := by rfl) : G K Γ ω (mdl K M sc ar σ0) pc ll (.int i :: .ref (M + 9) :: r) := by
  subst hx
  exact g_iald hC (hD 9 (by decide)) mdl_12 hi hj (by decide) hd kk hn
theorem m_st12 (hC : gC K Γ cc nL own mn d mc ms rt Po) (hD : mdom M ω.2.2.2) {i x : Int32} {f : Nat → Int32} (j : Nat) (hd : decode cc pc = .ok (.iastore, 1)) (hi : i = nI j) (hj : j < 9300) (hf : ar 12 = f) (kk : G K Γ ω (mdl K M sc (va_up ar 12 (va_up f j x)) σ0) n ll r) (hn : n = pc + 1 := by rfl) : G K Γ ω (mdl K M sc ar σ0) pc ll (.int x :: .int i :: .ref (M + 9) :: r) := by
  subst hf
  exact g_iast hC (hD 9 (by decide)) mdl_12 hi hj (by decide) hd (G.eqs mdl_s12 kk) hn
theorem m_ld13 (hC : gC K Γ cc nL own mn d mc ms rt Po) (hD : mdom M ω.2.2.2) {i x : Int32} (j : Nat) (hd : decode cc pc = .ok (.iaload, 1)) (hi : i = nI j) (hj : j < 420) (hx : ar 13 j = x) (kk : G K Γ ω (mdl K M sc ar σ0) n ll (.int x :: r)) (hn : n = pc + 1 := by rfl) : G K Γ ω (mdl K M sc ar σ0) pc ll (.int i :: .ref (M + 10) :: r) := by
  subst hx
  exact g_iald hC (hD 10 (by decide)) mdl_13 hi hj (by decide) hd kk hn
theorem m_st13 (hC : gC K Γ cc nL own mn d mc ms rt Po) (hD : mdom M ω.2.2.2) {i x : Int32} {f : Nat → Int32} (j : Nat) (hd : decode cc pc = .ok (.iastore, 1)) (hi : i = nI j) (hj : j < 420) (hf : ar 13 = f) (kk : G K Γ ω (mdl K M sc (va_up ar 13 (va_up f j x)) σ0) n ll r) (hn : n = pc + 1 := by rfl) : G K Γ ω (mdl K M sc ar σ0) pc ll (.int x :: .int i :: .ref (M + 10) :: r) := by
  subst hf
  exact g_iast hC (hD 10 (by decide)) mdl_13 hi hj (by decide) hd (G.eqs mdl_s13 kk) hn
theorem m_ld14 (hC : gC K Γ cc nL own mn d mc ms rt Po) (hD : mdom M ω.2.2.2) {i x : Int32} (j : Nat) (hd : decode cc pc = .ok (.iaload, 1)) (hi : i = nI j) (hj : j < 480) (hx : ar 14 j = x) (kk : G K Γ ω (mdl K M sc ar σ0) n ll (.int x :: r)) (hn : n = pc + 1 := by rfl) : G K Γ ω (mdl K M sc ar σ0) pc ll (.int i :: .ref (M + 11) :: r) := by
  subst hx
  exact g_iald hC (hD 11 (by decide)) mdl_14 hi hj (by decide) hd kk hn
theorem m_st14 (hC : gC K Γ cc nL own mn d mc ms rt Po) (hD : mdom M ω.2.2.2) {i x : Int32} {f : Nat → Int32} (j : Nat) (hd : decode cc pc = .ok (.iastore, 1)) (hi : i = nI j) (hj : j < 480) (hf : ar 14 = f) (kk : G K Γ ω (mdl K M sc (va_up ar 14 (va_up f j x)) σ0) n ll r) (hn : n = pc + 1 := by rfl) : G K Γ ω (mdl K M sc ar σ0) pc ll (.int x :: .int i :: .ref (M + 11) :: r) := by
  subst hf
  exact g_iast hC (hD 11 (by decide)) mdl_14 hi hj (by decide) hd (G.eqs mdl_s14 kk) hn
theorem m_ld15 (hC : gC K Γ cc nL own mn d mc ms rt Po) (hD : mdom M ω.2.2.2) {i x : Int32} (j : Nat) (hd : decode cc pc = .ok (.iaload, 1)) (hi : i = nI j) (hj : j < 2) (hx : ar 15 j = x) (kk : G K Γ ω (mdl K M sc ar σ0) n ll (.int x :: r)) (hn : n = pc + 1 := by rfl) : G K Γ ω (mdl K M sc ar σ0) pc ll (.int i :: .ref (M + 12) :: r) := by
  subst hx
  exact g_iald hC (hD 12 (by decide)) mdl_15 hi hj (by decide) hd kk hn
theorem m_st15 (hC : gC K Γ cc nL own mn d mc ms rt Po) (hD : mdom M ω.2.2.2) {i x : Int32} {f : Nat → Int32} (j : Nat) (hd : decode cc pc = .ok (.iastore, 1)) (hi : i = nI j) (hj : j < 2) (hf : ar 15 = f) (kk : G K Γ ω (mdl K M sc (va_up ar 15 (va_up f j x)) σ0) n ll r) (hn : n = pc + 1 := by rfl) : G K Γ ω (mdl K M sc ar σ0) pc ll (.int x :: .int i :: .ref (M + 12) :: r) := by
  subst hf
  exact g_iast hC (hD 12 (by decide)) mdl_15 hi hj (by decide) hd (G.eqs mdl_s15 kk) hn
theorem m_ld20 (hC : gC K Γ cc nL own mn d mc ms rt Po) (hD : mdom M ω.2.2.2) {i x : Int32} (j : Nat) (hd : decode cc pc = .ok (.iaload, 1)) (hi : i = nI j) (hj : j < 98) (hx : ar 20 j = x) (kk : G K Γ ω (mdl K M sc ar σ0) n ll (.int x :: r)) (hn : n = pc + 1 := by rfl) : G K Γ ω (mdl K M sc ar σ0) pc ll (.int i :: .ref (M + 13) :: r) := by
  subst hx
  exact g_iald hC (hD 13 (by decide)) mdl_20 hi hj (by decide) hd kk hn
theorem m_st20 (hC : gC K Γ cc nL own mn d mc ms rt Po) (hD : mdom M ω.2.2.2) {i x : Int32} {f : Nat → Int32} (j : Nat) (hd : decode cc pc = .ok (.iastore, 1)) (hi : i = nI j) (hj : j < 98) (hf : ar 20 = f) (kk : G K Γ ω (mdl K M sc (va_up ar 20 (va_up f j x)) σ0) n ll r) (hn : n = pc + 1 := by rfl) : G K Γ ω (mdl K M sc ar σ0) pc ll (.int x :: .int i :: .ref (M + 13) :: r) := by
  subst hf
  exact g_iast hC (hD 13 (by decide)) mdl_20 hi hj (by decide) hd (G.eqs mdl_s20 kk) hn
theorem m_ld21 (hC : gC K Γ cc nL own mn d mc ms rt Po) (hD : mdom M ω.2.2.2) {i x : Int32} (j : Nat) (hd : decode cc pc = .ok (.iaload, 1)) (hi : i = nI j) (hj : j < 8) (hx : ar 21 j = x) (kk : G K Γ ω (mdl K M sc ar σ0) n ll (.int x :: r)) (hn : n = pc + 1 := by rfl) : G K Γ ω (mdl K M sc ar σ0) pc ll (.int i :: .ref (M + 14) :: r) := by
  subst hx
  exact g_iald hC (hD 14 (by decide)) mdl_21 hi hj (by decide) hd kk hn
theorem m_st21 (hC : gC K Γ cc nL own mn d mc ms rt Po) (hD : mdom M ω.2.2.2) {i x : Int32} {f : Nat → Int32} (j : Nat) (hd : decode cc pc = .ok (.iastore, 1)) (hi : i = nI j) (hj : j < 8) (hf : ar 21 = f) (kk : G K Γ ω (mdl K M sc (va_up ar 21 (va_up f j x)) σ0) n ll r) (hn : n = pc + 1 := by rfl) : G K Γ ω (mdl K M sc ar σ0) pc ll (.int x :: .int i :: .ref (M + 14) :: r) := by
  subst hf
  exact g_iast hC (hD 14 (by decide)) mdl_21 hi hj (by decide) hd (G.eqs mdl_s21 kk) hn
theorem m_ld25 (hC : gC K Γ cc nL own mn d mc ms rt Po) (hD : mdom M ω.2.2.2) {i x : Int32} (j : Nat) (hd : decode cc pc = .ok (.iaload, 1)) (hi : i = nI j) (hj : j < 4) (hx : ar 25 j = x) (kk : G K Γ ω (mdl K M sc ar σ0) n ll (.int x :: r)) (hn : n = pc + 1 := by rfl) : G K Γ ω (mdl K M sc ar σ0) pc ll (.int i :: .ref (M + 15) :: r) := by
  subst hx
  exact g_iald hC (hD 15 (by decide)) mdl_25 hi hj (by decide) hd kk hn
theorem m_st25 (hC : gC K Γ cc nL own mn d mc ms rt Po) (hD : mdom M ω.2.2.2) {i x : Int32} {f : Nat → Int32} (j : Nat) (hd : decode cc pc = .ok (.iastore, 1)) (hi : i = nI j) (hj : j < 4) (hf : ar 25 = f) (kk : G K Γ ω (mdl K M sc (va_up ar 25 (va_up f j x)) σ0) n ll r) (hn : n = pc + 1 := by rfl) : G K Γ ω (mdl K M sc ar σ0) pc ll (.int x :: .int i :: .ref (M + 15) :: r) := by
  subst hf
  exact g_iast hC (hD 15 (by decide)) mdl_25 hi hj (by decide) hd (G.eqs mdl_s25 kk) hn
theorem m_ld26 (hC : gC K Γ cc nL own mn d mc ms rt Po) (hD : mdom M ω.2.2.2) {i x : Int32} (j : Nat) (hd : decode cc pc = .ok (.iaload, 1)) (hi : i = nI j) (hj : j < 4) (hx : ar 26 j = x) (kk : G K Γ ω (mdl K M sc ar σ0) n ll (.int x :: r)) (hn : n = pc + 1 := by rfl) : G K Γ ω (mdl K M sc ar σ0) pc ll (.int i :: .ref (M + 16) :: r) := by
  subst hx
  exact g_iald hC (hD 16 (by decide)) mdl_26 hi hj (by decide) hd kk hn
theorem m_st26 (hC : gC K Γ cc nL own mn d mc ms rt Po) (hD : mdom M ω.2.2.2) {i x : Int32} {f : Nat → Int32} (j : Nat) (hd : decode cc pc = .ok (.iastore, 1)) (hi : i = nI j) (hj : j < 4) (hf : ar 26 = f) (kk : G K Γ ω (mdl K M sc (va_up ar 26 (va_up f j x)) σ0) n ll r) (hn : n = pc + 1 := by rfl) : G K Γ ω (mdl K M sc ar σ0) pc ll (.int x :: .int i :: .ref (M + 16) :: r) := by
  subst hf
  exact g_iast hC (hD 16 (by decide)) mdl_26 hi hj (by decide) hd (G.eqs mdl_s26 kk) hn
theorem m_ld28 (hC : gC K Γ cc nL own mn d mc ms rt Po) (hD : mdom M ω.2.2.2) {i x : Int32} (j : Nat) (hd : decode cc pc = .ok (.caload, 1)) (hi : i = nI j) (hj : j < 80) (hx : ar 28 j = x) (kk : G K Γ ω (mdl K M sc ar σ0) n ll (.int x :: r)) (hn : n = pc + 1 := by rfl) : G K Γ ω (mdl K M sc ar σ0) pc ll (.int i :: .ref (M + 17) :: r) := by
  subst hx
  exact g_cald hC (hD 17 (by decide)) mdl_28 hi hj (by decide) hd kk hn
theorem m_st28 (hC : gC K Γ cc nL own mn d mc ms rt Po) (hD : mdom M ω.2.2.2) {i x : Int32} {f : Nat → Int32} (j : Nat) (hb : narrow .char (.int x) = .int x) (hd : decode cc pc = .ok (.castore, 1)) (hi : i = nI j) (hj : j < 80) (hf : ar 28 = f) (kk : G K Γ ω (mdl K M sc (va_up ar 28 (va_up f j x)) σ0) n ll r) (hn : n = pc + 1 := by rfl) : G K Γ ω (mdl K M sc ar σ0) pc ll (.int x :: .int i :: .ref (M + 17) :: r) := by
  subst hf
  exact g_cast hC hb (hD 17 (by decide)) mdl_28 hi hj (by decide) hd (G.eqs mdl_s28 kk) hn
theorem g_ifb_eq {p : Prop} (hC : gC K Γ cc nL own mn d mc ms rt Po) {off : Int} {tgt : Nat} (hd : decode cc pc = .ok (.ifCond .eq off, 3)) (kt : ¬ p → G K Γ ω σ tgt ll r) (kf : p → G K Γ ω σ n ll r) (ht : (pc : Int) + off = (tgt : Int) := by decide) (hn : n = pc + 3 := by rfl) : G K Γ ω σ pc ll (.int (bI p) :: r) :=
  g_if_eq hC hd (fun h => kt (bI_0.mp h)) (fun h => kf (Classical.not_not.mp (fun q => h (bI_0.mpr q)))) ht hn
theorem g_ifb_ne {p : Prop} (hC : gC K Γ cc nL own mn d mc ms rt Po) {off : Int} {tgt : Nat} (hd : decode cc pc = .ok (.ifCond .ne off, 3)) (kt : p → G K Γ ω σ tgt ll r) (kf : ¬ p → G K Γ ω σ n ll r) (ht : (pc : Int) + off = (tgt : Int) := by decide) (hn : n = pc + 3 := by rfl) : G K Γ ω σ pc ll (.int (bI p) :: r) :=
  g_if_ne hC hd (fun h => kt (Classical.not_not.mp (fun q => h (bI_0.mpr q)))) (fun h => kf (bI_0.mp h)) ht hn
theorem g_tsw (hC : gC K Γ cc nL own mn d mc ms rt Po) {x : Int32} {dflt hi : Int} {offs : Array Int} {len : Nat} (hd : decode cc pc = .ok (.tableswitch dflt 0 hi offs, len)) (hs : (offs.size : Int) = hi + 1) (kin : ∀ (j : Nat), j < offs.size → x = nI j → ∀ tgt : Nat, (pc : Int) + offs.getD j 0 = (tgt : Int) → G K Γ ω σ tgt ll r) (kout : (∀ j : Nat, j < offs.size → x ≠ nI j) → G K Γ ω σ n ll r) (hn : (pc : Int) + dflt = (n : Int) := by decide) (hok : ∀ j : Nat, j < offs.size → 0 ≤ (pc : Int) + offs.getD j 0 := by decide) (hsz : offs.size < 1000 := by decide) : G K Γ ω σ pc ll (.int x :: r) := by
  obtain ⟨l, D, cy⟩ := K
  obtain ⟨p, e, R, s, m, args, below, meth, c, A, H0, Q⟩ := Γ
  obtain ⟨z, k9, n9, L⟩ := ω
  obtain ⟨⟨hx, hb, hml, hown, hts⟩, hrt, hlk, ⟨hK, hEv⟩, hA, hR, hmn, hE⟩ := id hC
  by_cases h : ∃ j : Nat, j < offs.size ∧ x = nI j
  · obtain ⟨j, hj, rfl⟩ := h
    have h0 := hok j hj
    obtain ⟨tgt, ht⟩ := Int.eq_ofNat_of_zero_le h0
    intro H locs ls hz hW hS hl
    have hti : (nI j).toInt = (j : Int) := nI_toInt (by omega)
    refine lv_tableIn hx hb (tgt := tgt) (off := offs.getD j 0) hd (by omega) (by omega) ?_ ht (kin j hj rfl tgt ht H locs ls hz hW hS hl)
    rw [hti]
    simp [hj]
  · intro H locs ls hz hW hS hl
    refine lv_tableOut hx hb (tgt := n) hd ?_ hn (kout (fun j hj he => h ⟨j, hj, he⟩) H locs ls hz hW hS hl)
    by_cases h1 : x.toInt < 0
    · exact Or.inl h1
    · refine Or.inr (Int.not_le.mp fun h2 => h ⟨x.toInt.toNat, by omega, ?_⟩)
      refine Int32.toInt_inj.mp ?_
      rw [nI_toInt (by omega)]
      omega
end MR
/-! ===== bits of longs (wb_c, wb_cu, wb_sm: kit/laws/BITS) ===== -/
theorem wb_inj {a b : Int64} (h : a.toBitVec = b.toBitVec) : a = b := Int64.toBitVec_inj.mp h
theorem wb_c : ∀ k, k < 64 → ((nI k).toInt64 &&& 63) = lN k := by decide +kernel
theorem wb_cu : ∀ k, k < 64 → ((nI k).toInt64.toUInt64 &&& Int64.toUInt64 63) = UInt64.ofNat k := by decide +kernel
theorem wb_sm : ∀ k, k < 64 → (BitVec.ofNat 64 k).smod 64 = BitVec.ofNat 64 k := by decide +kernel
def sl (x : Int64) (k : Nat) : Int64 := Int64.ofBitVec (x.toBitVec <<< k)
def su (x : Int64) (k : Nat) : Int64 := Int64.ofBitVec (x.toBitVec >>> k)
def sa (x : Int64) (k : Nat) : Int64 := Int64.ofBitVec (x.toBitVec.sshiftRight k)
def tb (x : Int64) (i : Nat) : Bool := x.toBitVec.getLsbD i
theorem sl_eq {k : Nat} (hk : k < 64) (x : Int64) : x <<< ((nI k).toInt64 &&& 63) = sl x k := by
  rw [wb_c k hk]
  apply wb_inj
  rw [Int64.toBitVec_shiftLeft, show (lN k).toBitVec = BitVec.ofNat 64 k from rfl, wb_sm k hk]
  rw [BitVec.shiftLeft_eq', BitVec.toNat_ofNat, Nat.mod_eq_of_lt (show k < 2 ^ 64 by omega)]
  rfl
theorem sa_eq {k : Nat} (hk : k < 64) (x : Int64) : x >>> ((nI k).toInt64 &&& 63) = sa x k := by
  rw [wb_c k hk]
  apply wb_inj
  rw [Int64.toBitVec_shiftRight, show (lN k).toBitVec = BitVec.ofNat 64 k from rfl, wb_sm k hk]
  rw [BitVec.sshiftRight_eq', BitVec.toNat_ofNat, Nat.mod_eq_of_lt (show k < 2 ^ 64 by omega)]
  rfl
theorem su_eq {k : Nat} (hk : k < 64) (x : Int64) : (x.toUInt64 >>> ((nI k).toInt64.toUInt64 &&& Int64.toUInt64 63)).toInt64 = su x k := by
  rw [wb_cu k hk]
  apply wb_inj
  show (x.toUInt64 >>> UInt64.ofNat k).toBitVec = x.toBitVec >>> k
  rw [UInt64.toBitVec_shiftRight]
  show x.toBitVec >>> ((BitVec.ofNat 64 k) % 64) = _
  have h1 : (BitVec.ofNat 64 k) % 64 = BitVec.ofNat 64 k := by
    apply BitVec.eq_of_toNat_eq
    rw [BitVec.toNat_umod, BitVec.toNat_ofNat, Nat.mod_eq_of_lt (show k < 2 ^ 64 by omega)]
    exact Nat.mod_eq_of_lt hk
  rw [h1, BitVec.ushiftRight_eq', BitVec.toNat_ofNat, Nat.mod_eq_of_lt (show k < 2 ^ 64 by omega)]
theorem tb_ext {x y : Int64} (h : ∀ i, i < 64 → tb x i = tb y i) : x = y := wb_inj (BitVec.eq_of_getLsbD_eq h)
theorem tb_big {x : Int64} {i : Nat} (h : 64 ≤ i) : tb x i = false := BitVec.getLsbD_of_ge _ _ h
theorem tb_and (x y : Int64) (i : Nat) : tb (x &&& y) i = (tb x i && tb y i) := by simp only [tb, Int64.toBitVec_and, BitVec.getLsbD_and]
theorem tb_or (x y : Int64) (i : Nat) : tb (x ||| y) i = (tb x i || tb y i) := by simp only [tb, Int64.toBitVec_or, BitVec.getLsbD_or]
theorem tb_m1 (i : Nat) : tb (-1) i = decide (i < 64) := by
  show (BitVec.allOnes 64).getLsbD i = _
  rw [BitVec.getLsbD_allOnes]
theorem tb_not (x : Int64) (i : Nat) : tb (x ^^^ (-1)) i = (decide (i < 64) && !tb x i) := by
  show (x.toBitVec ^^^ (BitVec.allOnes 64)).getLsbD i = _
  rw [BitVec.getLsbD_xor, BitVec.getLsbD_allOnes]
  by_cases h : i < 64
  · simp [h, tb]
  · simp [h, BitVec.getLsbD_of_ge x.toBitVec i (by omega)]
theorem tb_0 (i : Nat) : tb 0 i = false := by
  show (0#64).getLsbD i = false
  simp
theorem tb_1 (i : Nat) : tb 1 i = decide (i = 0) := by
  show (1#64).getLsbD i = _
  rw [BitVec.getLsbD_one]
  simp
theorem tb_sl (x : Int64) (k i : Nat) : tb (sl x k) i = (decide (i < 64) && (decide (k ≤ i) && tb x (i - k))) := by
  show (x.toBitVec <<< k).getLsbD i = _
  rw [BitVec.getLsbD_shiftLeft]
  by_cases h : i < k
  · simp [h, show ¬ k ≤ i by omega]
  · simp [h, show k ≤ i by omega, tb]
theorem tb_su (x : Int64) (k i : Nat) : tb (su x k) i = tb x (k + i) := by
  show (x.toBitVec >>> k).getLsbD i = _
  rw [BitVec.getLsbD_ushiftRight]
  rfl
theorem tb_one (k i : Nat) : tb (sl 1 k) i = (decide (i < 64) && decide (i = k)) := by
  rw [tb_sl, tb_1]
  by_cases h : i < 64 <;> by_cases h2 : i = k <;> simp [h, h2] <;> omega
theorem su1_and (x : Int64) (k : Nat) : su x k &&& 1 = if tb x k then 1 else 0 := by
  apply tb_ext
  intro i hi
  rw [tb_and, tb_su, tb_1]
  by_cases h : tb x k
  · by_cases h0 : i = 0
    · subst h0; simp [h, tb_1]
    · simp [h, h0, tb_1]
  · by_cases h0 : i = 0
    · subst h0; simp [h, tb_0]
    · simp [h, h0, tb_0]
theorem sa1_and {k : Nat} (hk : k < 64) (x : Int64) : sa x k &&& 1 = if tb x k then 1 else 0 := by
  rw [← su1_and]
  apply tb_ext
  intro i hi
  rw [tb_and, tb_and, tb_1]
  by_cases h0 : i = 0
  · subst h0
    rw [tb_su]
    show ((x.toBitVec.sshiftRight k).getLsbD 0 && _) = _
    rw [BitVec.getLsbD_sshiftRight]
    simp [tb, show k < 64 from hk]
  · simp [h0]
theorem sa1_1 {k : Nat} (hk : k < 64) (x : Int64) : sa x k &&& 1 = 1 ↔ tb x k = true := by rw [sa1_and hk]; by_cases h : tb x k <;> simp [h]
theorem sa1_0 {k : Nat} (hk : k < 64) (x : Int64) : sa x k &&& 1 = 0 ↔ tb x k = false := by rw [sa1_and hk]; by_cases h : tb x k <;> simp [h]
theorem su1_1 {k : Nat} (x : Int64) : su x k &&& 1 = 1 ↔ tb x k = true := by rw [su1_and]; by_cases h : tb x k <;> simp [h]
theorem su1_0 {k : Nat} (x : Int64) : su x k &&& 1 = 0 ↔ tb x k = false := by rw [su1_and]; by_cases h : tb x k <;> simp [h]
theorem i2cN {a : Nat} (h : a < 65536) : ((nI a).toUInt32 % 65536).toInt32 = nI a := by
  rw [pk_char, pk_tn (by omega), Nat.mod_eq_of_lt h]
section BR
variable {K : GK} {Γ : GX} {cc : ByteArray} {nL d mc ms : Nat} {own mn : String} {rt : Option FieldType} {Po : GP} {ω : GO} {σ : GS} {pc n : Nat} {ll ll1 : List (Option Value)} {r : List Value} {M : Nat} {sc : Nat → Int32} {ar : Nat → Nat → Int32} {σ0 : GS}

theorem g_lshlN {x : Int64} {k : Nat} (hC : gC K Γ cc nL own mn d mc ms rt Po) (hk : k < 64) (hd : decode cc pc = .ok (.lshl, 1)) (kk : G K Γ ω σ n ll (.long (sl x k) :: r)) (hn : n = pc + 1 := by rfl) : G K Γ ω σ pc ll (.int (nI k) :: .long x :: r) := g_lshl hC (sl_eq hk x) hd kk hn
theorem g_lshrN {x : Int64} {k : Nat} (hC : gC K Γ cc nL own mn d mc ms rt Po) (hk : k < 64) (hd : decode cc pc = .ok (.lshr, 1)) (kk : G K Γ ω σ n ll (.long (sa x k) :: r)) (hn : n = pc + 1 := by rfl) : G K Γ ω σ pc ll (.int (nI k) :: .long x :: r) := g_lshr hC (sa_eq hk x) hd kk hn
theorem g_lushrN {x : Int64} {k : Nat} (hC : gC K Γ cc nL own mn d mc ms rt Po) (hk : k < 64) (hd : decode cc pc = .ok (.lushr, 1)) (kk : G K Γ ω σ n ll (.long (su x k) :: r)) (hn : n = pc + 1 := by rfl) : G K Γ ω σ pc ll (.int (nI k) :: .long x :: r) := g_lushr hC (su_eq hk x) hd kk hn
theorem g_if_eqN (hC : gC K Γ cc nL own mn d mc ms rt Po) {off : Int} {tgt a : Nat} (ha : a < 2 ^ 31) (hd : decode cc pc = .ok (.ifCond .eq off, 3)) (kt : a = 0 → G K Γ ω σ tgt ll r) (kf : a ≠ 0 → G K Γ ω σ n ll r) (ht : (pc : Int) + off = (tgt : Int) := by decide) (hn : n = pc + 3 := by rfl) : G K Γ ω σ pc ll (.int (nI a) :: r) :=
  g_if_eq hC hd (fun h => kt ((nI_eq (b := 0) ha (by decide)).mp h)) (fun h => kf (fun q => h ((nI_eq (b := 0) ha (by decide)).mpr q))) ht hn
theorem g_if_neN (hC : gC K Γ cc nL own mn d mc ms rt Po) {off : Int} {tgt a : Nat} (ha : a < 2 ^ 31) (hd : decode cc pc = .ok (.ifCond .ne off, 3)) (kt : a ≠ 0 → G K Γ ω σ tgt ll r) (kf : a = 0 → G K Γ ω σ n ll r) (ht : (pc : Int) + off = (tgt : Int) := by decide) (hn : n = pc + 3 := by rfl) : G K Γ ω σ pc ll (.int (nI a) :: r) :=
  g_if_ne hC hd (fun h => kt (fun q => h ((nI_eq (b := 0) ha (by decide)).mpr q))) (fun h => kf ((nI_eq (b := 0) ha (by decide)).mp h)) ht hn
theorem g_if_ltN (hC : gC K Γ cc nL own mn d mc ms rt Po) {off : Int} {tgt a : Nat} (ha : a < 2 ^ 31) (hd : decode cc pc = .ok (.ifCond .lt off, 3)) (kt : False → G K Γ ω σ tgt ll r) (kf : True → G K Γ ω σ n ll r) (ht : (pc : Int) + off = (tgt : Int) := by decide) (hn : n = pc + 3 := by rfl) : G K Γ ω σ pc ll (.int (nI a) :: r) :=
  g_if_lt hC hd (fun h => absurd h (nI_pos ha)) (fun _ => kf trivial) ht hn
theorem g_if_geN (hC : gC K Γ cc nL own mn d mc ms rt Po) {off : Int} {tgt a : Nat} (ha : a < 2 ^ 31) (hd : decode cc pc = .ok (.ifCond .ge off, 3)) (kt : True → G K Γ ω σ tgt ll r) (kf : False → G K Γ ω σ n ll r) (ht : (pc : Int) + off = (tgt : Int) := by decide) (hn : n = pc + 3 := by rfl) : G K Γ ω σ pc ll (.int (nI a) :: r) :=
  g_if_ge hC hd (fun _ => kt trivial) (fun h => absurd (nI_pos' ha) h) ht hn
theorem g_if_gtN (hC : gC K Γ cc nL own mn d mc ms rt Po) {off : Int} {tgt a : Nat} (ha : a < 2 ^ 31) (hd : decode cc pc = .ok (.ifCond .gt off, 3)) (kt : 0 < a → G K Γ ω σ tgt ll r) (kf : a = 0 → G K Γ ω σ n ll r) (ht : (pc : Int) + off = (tgt : Int) := by decide) (hn : n = pc + 3 := by rfl) : G K Γ ω σ pc ll (.int (nI a) :: r) :=
  g_if_gt hC hd (fun h => kt ((nI_ltI (a := 0) (by decide) ha).mp h)) (fun h => kf (Nat.eq_zero_of_not_pos (fun q => h ((nI_ltI (a := 0) (by decide) ha).mpr q)))) ht hn
theorem g_if_leN (hC : gC K Γ cc nL own mn d mc ms rt Po) {off : Int} {tgt a : Nat} (ha : a < 2 ^ 31) (hd : decode cc pc = .ok (.ifCond .le off, 3)) (kt : a = 0 → G K Γ ω σ tgt ll r) (kf : 0 < a → G K Γ ω σ n ll r) (ht : (pc : Int) + off = (tgt : Int) := by decide) (hn : n = pc + 3 := by rfl) : G K Γ ω σ pc ll (.int (nI a) :: r) :=
  g_if_le hC hd (fun h => kt (by have := (nI_leI (b := 0) ha (by decide)).mp h; omega)) (fun h => kf (Nat.pos_of_ne_zero (fun q => h ((nI_leI (b := 0) ha (by decide)).mpr (Nat.le_of_eq q))))) ht hn
end BR
