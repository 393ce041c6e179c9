/-! ===== the law's world: the class's object at a, the reference at a + 506, the two arrays for answers, the script ===== -/
theorem gHM_mono {K : GK} {y : MethodName} {cc : ByteArray} {nL : Nat} {rt : Option FieldType} {hh : List (Nat × Nat × Nat × Nat)} {d mc ms : Nat} {av : List Value} {z : Nat} {L : List Nat} {σ : GS} {Po P2 : GP} (hM : gHM K y cc nL rt hh d mc ms av z L σ Po) (h : ∀ r z1 L1 σ1, Po r z1 L1 σ1 → P2 r z1 L1 σ1) : gHM K y cc nL rt hh d mc ms av z L σ P2 := by
  intro hst p e ha hc hk s m args below hf happ hP hK
  obtain ⟨n, o, h1, h2, h3, hQ⟩ := hM hst p e ha hc hk s m args below hf happ hP hK
  refine ⟨n, o, h1, h2, h3, ?_⟩
  rcases hQ with ⟨q1, q2⟩ | q
  · exact Or.inl ⟨gPost_mono h q1, q2⟩
  · exact Or.inr q
def bOK (a b : Nat) : Prop := b = a + 2 ∨ b = a + 247 ∨ a + 526 ≤ b
def wG (K : GK) (a : Nat) (L : List Nat) (σ : GS) (g w h b : Nat) (ru : Int32) (pl : Nat) (x y : Int32) (D : Nat → RD) : Prop := gmI K L σ g b ru pl x y D ∧ gmT D ∧ σ b = bdA w h ∧ bOK a b
def wO (a : Nat) (L : List Nat) (σ : GS) (hk : Int32) : Prop := a ∈ L ∧ σ a = xOg (a + 1) (a + 246) hk (a + 491) (a + 494) (a + 497)
def wR (K : GK) (a : Nat) (L : List Nat) (σ : GS) (rk : Nat) (cd dt : Nat → Int32) : Prop := (a + 491 ∈ L ∧ a + 491 + 1 ∈ L ∧ a + 491 + 2 ∈ L) ∧ σ (a + 491) = rfsO (a + 491) rk ∧ σ (a + 491 + 1) = iA K 4 cd ∧ σ (a + 491 + 2) = iA K 4 dt
def wN (K : GK) (a : Nat) (L : List Nat) (σ : GS) (tn : Nat) (tx : Nat → Int32) : Prop := (a + 494 ∈ L ∧ a + 494 + 1 ∈ L ∧ a + 494 + 2 ∈ L) ∧ ∃ (cr : Nat) (gc : Nat → Int32), σ (a + 494) = inpO (a + 494) tn cr ∧ σ (a + 494 + 1) = cA K 80 tx ∧ σ (a + 494 + 2) = iA K 80 gc
def rdQ (K : GK) (L : List Nat) (σ : GS) (q : Nat) : Prop := ∃ d, ((∀ k, 6 ≤ k → d.2.2.2 k = 0) ∧ ∀ k, 8 ≤ k → d.2.2.1 k = 0) ∧ rdD K L σ q d
def wF (K : GK) (a : Nat) (L : List Nat) (σ : GS) : Prop := a + 497 ∈ L ∧ σ (a + 497) = .inr (1, [.ref (a + 497 + 1), .ref (a + 497 + 5)]) ∧ rdQ K L σ (a + 497 + 5) ∧ rdQ K L σ (a + 497 + 1)
def wX (K : GK) (a : Nat) (L : List Nat) (σ : GS) (hk : Int32) (w h b : Nat) (ru : Int32) (pl : Nat) (x y : Int32) (D : Nat → RD) (wk h9 bk : Nat) (ruk : Int32) (plk : Nat) (xk yk : Int32) (Dk : Nat → RD) (rk : Nat) (cd dt : Nat → Int32) (tn : Nat) (tx : Nat → Int32) : Prop :=
  wO a L σ hk ∧ wG K a L σ (a + 1) w h b ru pl x y D ∧ wG K a L σ (a + 246) wk h9 bk ruk plk xk yk Dk ∧ wR K a L σ rk cd dt ∧ wN K a L σ tn tx ∧ wF K a L σ
def wS (K : GK) (a : Nat) (L : List Nat) (σ : GS) : Prop := (a + 524 ∈ L ∧ ∃ f, σ (a + 524) = lA K 1 f) ∧ (a + 525 ∈ L ∧ ∃ f, σ (a + 525) = dA K 1 f)
def wY (K : GK) (a : Nat) (L : List Nat) (σ : GS) (sc : Nat → Int32) (ar : Nat → Nat → Int32) : Prop := wS K a L σ ∧ mdom (a + 506) L ∧ σ = mdl K (a + 506) sc ar σ
section WW
variable {K : GK} {a : Nat} {L L2 : List Nat} {σ σ2 : GS} {hk : Int32} {w h b : Nat} {ru : Int32} {pl : Nat} {x y : Int32} {D : Nat → RD} {wk h9 bk : Nat} {ruk : Int32} {plk : Nat} {xk yk : Int32} {Dk : Nat → RD} {rk : Nat} {cd dt : Nat → Int32} {tn : Nat} {tx : Nat → Int32} {sc sc2 : Nat → Int32} {ar ar2 : Nat → Nat → Int32} {g z : Nat}
theorem wG_eq (hL : ∀ q, q ∈ L → q ∈ L2) (he : ∀ q, g ≤ q → q < g + 245 → q ≠ g + 1 → σ2 q = σ q) (hb : σ2 b = σ b) (hG : wG K a L σ g w h b ru pl x y D) : wG K a L2 σ2 g w h b ru pl x y D := ⟨gm_mono hL (gm_eq he hG.1), hG.2.1, hb.trans hG.2.2.1, hG.2.2.2⟩
theorem wO_eq (hL : ∀ q, q ∈ L → q ∈ L2) (he : σ2 a = σ a) (hG : wO a L σ hk) : wO a L2 σ2 hk := ⟨hL _ hG.1, he.trans hG.2⟩
theorem wR_eq (hL : ∀ q, q ∈ L → q ∈ L2) (he : ∀ q, a + 491 ≤ q → q < a + 494 → σ2 q = σ q) (hG : wR K a L σ rk cd dt) : wR K a L2 σ2 rk cd dt := ⟨⟨hL _ hG.1.1, hL _ hG.1.2.1, hL _ hG.1.2.2⟩, (he _ (by omega) (by omega)).trans hG.2.1, (he _ (by omega) (by omega)).trans hG.2.2.1, (he _ (by omega) (by omega)).trans hG.2.2.2⟩
theorem wN_eq (hL : ∀ q, q ∈ L → q ∈ L2) (he : ∀ q, a + 494 ≤ q → q < a + 497 → σ2 q = σ q) (hG : wN K a L σ tn tx) : wN K a L2 σ2 tn tx := by
  obtain ⟨h1, cr, gc, h2, h3, h4⟩ := hG
  exact ⟨⟨hL _ h1.1, hL _ h1.2.1, hL _ h1.2.2⟩, cr, gc, (he _ (by omega) (by omega)).trans h2, (he _ (by omega) (by omega)).trans h3, (he _ (by omega) (by omega)).trans h4⟩
theorem rdQ_eq {q : Nat} (hL : ∀ q, q ∈ L → q ∈ L2) (he : ∀ c, q ≤ c → c ≤ q + 3 → σ2 c = σ c) (hG : rdQ K L σ q) : rdQ K L2 σ2 q := by
  obtain ⟨d, h1, h2⟩ := hG
  exact ⟨d, h1, rdD_mono hL (rdD_eq he h2)⟩
theorem wF_eq (hL : ∀ q, q ∈ L → q ∈ L2) (he : ∀ q, a + 497 ≤ q → q < a + 506 → σ2 q = σ q) (hG : wF K a L σ) : wF K a L2 σ2 := ⟨hL _ hG.1, (he _ (by omega) (by omega)).trans hG.2.1, rdQ_eq hL (fun c h1 h2 => he c (by omega) (by omega)) hG.2.2.1, rdQ_eq hL (fun c h1 h2 => he c (by omega) (by omega)) hG.2.2.2⟩
theorem bOK_o (hb : bOK a b) : b < a + 506 ∨ a + 526 ≤ b := by rcases hb with h | h | h <;> omega
/-- what the class keeps isn't touched by what lies elsewhere -/
theorem wX_eq (he : ∀ q, q < a + 506 ∨ a + 526 ≤ q → σ2 q = σ q) (hX : wX K a L σ hk w h b ru pl x y D wk h9 bk ruk plk xk yk Dk rk cd dt tn tx) : wX K a L σ2 hk w h b ru pl x y D wk h9 bk ruk plk xk yk Dk rk cd dt tn tx := by
  obtain ⟨h1, h2, h3, h4, h5, h6⟩ := hX
  have hL : ∀ q, q ∈ L → q ∈ L := fun q h => h
  exact ⟨wO_eq hL (he _ (by omega)) h1, wG_eq hL (fun q _ _ _ => he q (by omega)) (he b (bOK_o h2.2.2.2)) h2, wG_eq hL (fun q _ _ _ => he q (by omega)) (he bk (bOK_o h3.2.2.2)) h3, wR_eq hL (fun q _ _ => he q (by omega)) h4, wN_eq hL (fun q _ _ => he q (by omega)) h5, wF_eq hL (fun q _ _ => he q (by omega)) h6⟩
/-- the game is another, all else stays -/
theorem wX_game {w2 h2 b2 : Nat} {ru2 : Int32} {pl2 : Nat} {x2 y2 : Int32} {D2 : Nat → RD} (hz : ∀ q, q ∈ L → q < z) (haz : a + 526 ≤ z) (hL : ∀ q, q ∈ L → q ∈ L2) (he : ∀ q, q < z → (q < a + 1 ∨ q = a + 2 ∨ a + 246 ≤ q) → σ2 q = σ q) (hg : wG K a L2 σ2 (a + 1) w2 h2 b2 ru2 pl2 x2 y2 D2) (hX : wX K a L σ hk w h b ru pl x y D wk h9 bk ruk plk xk yk Dk rk cd dt tn tx) : wX K a L2 σ2 hk w2 h2 b2 ru2 pl2 x2 y2 D2 wk h9 bk ruk plk xk yk Dk rk cd dt tn tx := by
  obtain ⟨h1, h2, h3, h4, h5, h6⟩ := hX
  exact ⟨wO_eq hL (he _ (by omega) (by omega)) h1, hg, wG_eq hL (fun q _ _ _ => he q (by omega) (by omega)) (he bk (hz _ h3.1.1.2.2.2.2) (by rcases h3.2.2.2 with q | q | q <;> omega)) h3, wR_eq hL (fun q _ _ => he q (by omega) (by omega)) h4, wN_eq hL (fun q _ _ => he q (by omega) (by omega)) h5, wF_eq hL (fun q _ _ => he q (by omega) (by omega)) h6⟩
/-- what is kept is another -/
theorem wX_kept {hk2 : Int32} {w2 h2 b2 : Nat} {ru2 : Int32} {pl2 : Nat} {x2 y2 : Int32} {D2 : Nat → RD} (ho : σ2 a = xOg (a + 1) (a + 246) hk2 (a + 491) (a + 494) (a + 497)) (he : ∀ q, q ≠ a → (q < a + 246 ∨ q = a + 247 ∨ a + 491 ≤ q) → σ2 q = σ q) (hg : wG K a L σ2 (a + 246) w2 h2 b2 ru2 pl2 x2 y2 D2) (hX : wX K a L σ hk w h b ru pl x y D wk h9 bk ruk plk xk yk Dk rk cd dt tn tx) : wX K a L σ2 hk2 w h b ru pl x y D w2 h2 b2 ru2 pl2 x2 y2 D2 rk cd dt tn tx := by
  obtain ⟨h1, h2, h3, h4, h5, h6⟩ := hX
  have hL : ∀ q, q ∈ L → q ∈ L := fun q h => h
  exact ⟨⟨h1.1, ho⟩, wG_eq hL (fun q _ _ _ => he q (by omega) (by omega)) (he b (by rcases h2.2.2.2 with q | q | q <;> omega) (by rcases h2.2.2.2 with q | q | q <;> omega)) h2, hg, wR_eq hL (fun q _ _ => he q (by omega) (by omega)) h4, wN_eq hL (fun q _ _ => he q (by omega) (by omega)) h5, wF_eq hL (fun q _ _ => he q (by omega) (by omega)) h6⟩
/-- the refusal's report is another -/
theorem wX_rf {rk2 : Nat} {cd2 dt2 : Nat → Int32} (hX : wX K a L σ hk w h b ru pl x y D wk h9 bk ruk plk xk yk Dk rk cd dt tn tx) : wX K a L (rfU K σ (a + 491) rk2 cd2 dt2) hk w h b ru pl x y D wk h9 bk ruk plk xk yk Dk rk2 cd2 dt2 tn tx := by
  obtain ⟨h1, h2, h3, h4, h5, h6⟩ := hX
  have hL : ∀ q, q ∈ L → q ∈ L := fun q h => h
  exact ⟨wO_eq hL (rfU_o (by omega)) h1, wG_eq hL (fun q _ _ _ => rfU_o (by omega)) (rfU_o (by rcases h2.2.2.2 with q | q | q <;> omega)) h2, wG_eq hL (fun q _ _ _ => rfU_o (by omega)) (rfU_o (by rcases h3.2.2.2 with q | q | q <;> omega)) h3, ⟨h4.1, rfU_0, rfU_1, rfU_2⟩, wN_eq hL (fun q _ _ => rfU_o (by omega)) h5, wF_eq hL (fun q _ _ => rfU_o (by omega)) h6⟩
/-- the text that was fed is another -/
theorem wX_in {tn2 : Nat} {tx2 : Nat → Int32} (he : ∀ q, q < a + 494 ∨ a + 497 ≤ q → σ2 q = σ q) (hn : ∃ (cr : Nat) (gc : Nat → Int32), σ2 (a + 494) = inpO (a + 494) tn2 cr ∧ σ2 (a + 494 + 1) = cA K 80 tx2 ∧ σ2 (a + 494 + 2) = iA K 80 gc) (hX : wX K a L σ hk w h b ru pl x y D wk h9 bk ruk plk xk yk Dk rk cd dt tn tx) : wX K a L σ2 hk w h b ru pl x y D wk h9 bk ruk plk xk yk Dk rk cd dt tn2 tx2 := by
  obtain ⟨h1, h2, h3, h4, h5, h6⟩ := hX
  have hL : ∀ q, q ∈ L → q ∈ L := fun q h => h
  exact ⟨wO_eq hL (he _ (by omega)) h1, wG_eq hL (fun q _ _ _ => he q (by omega)) (he b (by rcases h2.2.2.2 with q | q | q <;> omega)) h2, wG_eq hL (fun q _ _ _ => he q (by omega)) (he bk (by rcases h3.2.2.2 with q | q | q <;> omega)) h3, wR_eq hL (fun q _ _ => he q (by omega)) h4, ⟨h5.1, hn⟩, wF_eq hL (fun q _ _ => he q (by omega)) h6⟩
/-- the rounds that look ahead have other contents -/
theorem wX_fo (hf : foR K L (a + 497) σ σ2) (hX : wX K a L σ hk w h b ru pl x y D wk h9 bk ruk plk xk yk Dk rk cd dt tn tx) : wX K a L σ2 hk w h b ru pl x y D wk h9 bk ruk plk xk yk Dk rk cd dt tn tx := by
  obtain ⟨h1, h2, h3, h4, h5, h6⟩ := hX
  obtain ⟨f1, f2, he⟩ := hf
  have hL : ∀ q, q ∈ L → q ∈ L := fun q h => h
  exact ⟨wO_eq hL (he _ (by omega)) h1, wG_eq hL (fun q _ _ _ => he q (by omega)) (he b (by rcases h2.2.2.2 with q | q | q <;> omega)) h2, wG_eq hL (fun q _ _ _ => he q (by omega)) (he bk (by rcases h3.2.2.2 with q | q | q <;> omega)) h3, wR_eq hL (fun q _ _ => he q (by omega)) h4, wN_eq hL (fun q _ _ => he q (by omega)) h5, h6.1, (he _ (by omega)).trans h6.2.1, f1, f2⟩
theorem mdl_in {σ0 σ1 : GS} {q : Nat} (h1 : a ≤ q) (h2 : q < a + 18) : mdl K a sc ar σ0 q = mdl K a sc ar σ1 q := by
  rcases (show q = a ∨ q = a + 1 ∨ q = a + 2 ∨ q = a + 3 ∨ q = a + 4 ∨ q = a + 5 ∨ q = a + 6 ∨ q = a + 7 ∨ q = a + 8 ∨ q = a + 9 ∨ q = a + 10 ∨ q = a + 11 ∨ q = a + 12 ∨ q = a + 13 ∨ q = a + 14 ∨ q = a + 15 ∨ q = a + 16 ∨ q = a + 17 by omega) with rfl | rfl | rfl | rfl | rfl | rfl | rfl | rfl | rfl | rfl | rfl | rfl | rfl | rfl | rfl | rfl | rfl | rfl
  all_goals simp [mdl]
theorem mdl_at (h1 : ∀ q, a ≤ q → q < a + 18 → σ2 q = σ q) (h2 : σ = mdl K a sc ar σ) : σ2 = mdl K a sc ar σ2 := by
  funext q
  by_cases e : a ≤ q ∧ q < a + 18
  · rw [h1 q e.1 e.2, congrFun h2 q]
    exact mdl_in e.1 e.2
  · rw [mdl_out (by omega)]
theorem mdl_mdl : mdl K a sc2 ar2 σ = mdl K a sc2 ar2 (mdl K a sc2 ar2 σ) := by
  funext q
  by_cases e : a ≤ q ∧ q < a + 18
  · exact mdl_in e.1 e.2
  · rw [mdl_out (by omega), mdl_out (by omega), mdl_out (by omega)]
/-- the class's step leaves the rest -/
theorem wY_eq (hL : ∀ q, q ∈ L → q ∈ L2) (he : ∀ q, q < a ∨ (a + 506 ≤ q ∧ q < a + 526) → σ2 q = σ q) (hY : wY K a L σ sc ar) : wY K a L2 σ2 sc ar := by
  obtain ⟨⟨h2, h3⟩, h4, h5⟩ := hY
  exact ⟨⟨⟨hL _ h2.1, h2.2.imp fun f q => (he _ (by omega)).trans q⟩, ⟨hL _ h3.1, h3.2.imp fun f q => (he _ (by omega)).trans q⟩⟩, fun j hj => hL _ (h4 j hj), mdl_at (fun q h1 h2 => he q (by omega)) h5⟩
theorem wY_out {f : Nat → Int64} (hY : wY K a L σ sc ar) : wY K a L (va_up σ (a + 524) (lA K 1 f)) sc ar := by
  obtain ⟨⟨h2, h3⟩, h4, h5⟩ := hY
  exact ⟨⟨⟨h2.1, f, va_up_self _ _ _⟩, ⟨h3.1, h3.2.imp fun f q => by rw [va_up_ne _ _ (by omega)]; exact q⟩⟩, h4, mdl_at (fun q h1 h2 => va_up_ne _ _ (by omega)) h5⟩
theorem wY_outD {f : Nat → UInt64} (hY : wY K a L σ sc ar) : wY K a L (va_up σ (a + 525) (dA K 1 f)) sc ar := by
  obtain ⟨⟨h2, h3⟩, h4, h5⟩ := hY
  exact ⟨⟨⟨h2.1, h2.2.imp fun f q => by rw [va_up_ne _ _ (by omega)]; exact q⟩, ⟨h3.1, f, va_up_self _ _ _⟩⟩, h4, mdl_at (fun q h1 h2 => va_up_ne _ _ (by omega)) h5⟩
theorem wX_out {e : va_E} (hX : wX K a L σ hk w h b ru pl x y D wk h9 bk ruk plk xk yk Dk rk cd dt tn tx) : wX K a L (va_up σ (a + 524) e) hk w h b ru pl x y D wk h9 bk ruk plk xk yk Dk rk cd dt tn tx := wX_eq (fun q hq => va_up_ne _ _ (by omega)) hX
theorem wX_outD {e : va_E} (hX : wX K a L σ hk w h b ru pl x y D wk h9 bk ruk plk xk yk Dk rk cd dt tn tx) : wX K a L (va_up σ (a + 525) e) hk w h b ru pl x y D wk h9 bk ruk plk xk yk Dk rk cd dt tn tx := wX_eq (fun q hq => va_up_ne _ _ (by omega)) hX
/-- the reference's step -/
theorem wX_M (hX : wX K a L σ hk w h b ru pl x y D wk h9 bk ruk plk xk yk Dk rk cd dt tn tx) : wX K a L (mdl K (a + 506) sc2 ar2 σ) hk w h b ru pl x y D wk h9 bk ruk plk xk yk Dk rk cd dt tn tx := wX_eq (fun q hq => mdl_out (by omega)) hX
theorem wY_M (hY : wY K a L σ sc ar) : wY K a L (mdl K (a + 506) sc2 ar2 σ) sc2 ar2 := by
  obtain ⟨⟨h2, h3⟩, h4, h5⟩ := hY
  exact ⟨⟨⟨h2.1, h2.2.imp fun f q => by rw [mdl_out (by omega)]; exact q⟩, ⟨h3.1, h3.2.imp fun f q => by rw [mdl_out (by omega)]; exact q⟩⟩, h4, mdl_mdl⟩
end WW
