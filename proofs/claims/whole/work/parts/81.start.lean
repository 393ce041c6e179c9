/-! THE CLAIM OUT OF ONE WALK OF THE LAW'S BODY. Your part is whole_start (and what it stands on); all else here is the same for every law, but numbers. -/
def R_law : String := "EnclosureRefereeLaw"
def lw_P (b : Addr) (xs : List Int32) (args : Array Value) (s : State) : Prop := args = #[.ref b] ∧ s.IntsAt b xs ∧ xs.length ≤ 2048 ∧ (Jvm.Cond.and given_1 narrow_1).before args s = true
/-- what a walk over the start with the record d0 says of its end, said of the start itself -/
theorem lw_closed {s t : State} {o : Outcome} {d0 : Drawn} {L : List Loc} {k n : Nat} (hd0 : s.drawn.sameBut d0 lw_cs) (hv : ∃ v, o = .returned v) (hW : (s.setDrawn d0).WarmedH t.vm) (hs : (s.setDrawn d0).sameButNew ({ t with vm := s.vm } : State) L k n) : State.butDraws s t lw_cs (fun t1 => Framed s o t1 L k n) := by
  have h2 : t.drawn = d0 := congrArg State.drawn hs.1
  refine ⟨⟨hv, hW, State.sameButNew.setDrawn hs s.drawn⟩, ?_, by decide⟩
  rw [h2]
  exact hd0
def lw_Q (_ : Array Value) (s : State) (o : Outcome) (t : State) : Prop := o = .returned (some (.int 1)) ∧ State.butDraws s t lw_cs (fun t1 => Framed s o t1 [] 601024 7293034)
def lw_Z (below : List Frame) (a : Array Value) (s : State) : State → Prop := fun t => ∃ o, t.status = .running ∧ Ended t below o ∧ lw_Q a s o t
/-- the law's own end, with 1 on the stack, nothing written that was there before, its room as the claim has it; d0: the record of draws at this point (at the entry s.drawn: begin with 'refine W.base ?_' and 'have hd0 := Drawn.sameBut.refl s.drawn lw_cs') -/
theorem lw_ret {p : Program} {l : Launch} {e : Env} {s : State} {m : MethodId} {below : List Frame} {meth : Method} {c : Code} {b : Nat} {d0 : Drawn} (hd0 : s.drawn.sameBut d0 lw_cs) (hx : p.tables.exec = Jvm.exec) (hb : c.code = code) (hr : meth.sig.returnType = ret) (hlocks : meth.locks = false) {pc : Nat} {H : Heap} {ls : Array Slot} (hdg : decode code pc = .ok (.ireturn, 1)) : W p l e room_1 (s.setDrawn d0) m #[Value.ref b] below meth c H [] 601024 7293034 (lw_Z below #[Value.ref b] s) (F0 m pc ls [.int 1]) := by
  intro T hT X
  obtain ⟨fs, hret, hrun, hended, hW, hframe⟩ := X.leave (v := some (.int 1)) (hlocks := hlocks) (fun h => by rw [hr] at h; cases h)
  have hmeth' : T.vm.method? m = some meth := X.method'
  refine ⟨T.setFrames fs, ?_, .returned (some (.int 1)), hrun, hended, rfl, lw_closed hd0 ⟨_, rfl⟩ hW hframe⟩
  jvm_step X.here [X.here.top, hx, hb, hdg, hmeth', hr, ret, narrow_b1]
  (try refine ⟨rfl, ?_⟩); (try refine ⟨rfl, ?_⟩)
  first | (intro acts; rw [hret _ acts rfl rfl rfl]) | rw [hret _ _ rfl rfl rfl]
  exact Steps.refl _
/-- what holds at the law's entry: the machine, the code, the tables' words (any of lw_tbl by 'hts w (by decide +kernel)'), the script of L ints xs at the cell b, what the Statement gives of the start (any of its parts by flat_of_before) -/
def lw_At (p : Program) (s : State) (m : MethodId) (meth : Method) (c : Code) (b L : Nat) (xs : Nat → Int32) : Prop :=
  p.tables.exec = Jvm.exec ∧ c.code = code ∧ meth.sig.returnType = ret ∧ c.maxLocals = 9 ∧ s.vm.findClass R_law = some m.cls ∧ (∀ w ∈ lw_tbl, w.before #[Value.ref b] s = true) ∧ va_X b L xs s s.heap ∧ b < s.heap.size ∧ meth.locks = false ∧ (Jvm.Cond.and given_1 narrow_1).before #[Value.ref b] s = true

/-! ===== the law from its entry ===== -/
theorem ladd_mem {L : List Nat} {z q : Nat} : ∀ k, q ∈ ladd L z k → q ∈ L ∨ (z ≤ q ∧ q < z + k)
  | 0, h => Or.inl h
  | k + 1, h => by
    rcases List.mem_append.mp h with h | h
    · rcases ladd_mem k h with h | h
      · exact Or.inl h
      · exact Or.inr ⟨h.1, by omega⟩
    · have := List.mem_singleton.mp h
      exact Or.inr ⟨by omega, by omega⟩
theorem newD_T : gmT newD := fun r hr => by
  by_cases e : r = 60
  · rw [e]
    exact ⟨fun k hk => if_neg (by omega), fun k hk => rfl⟩
  · rw [show newD r = d0R from if_neg e]
    exact ⟨fun k hk => rfl, fun k hk => rfl⟩
theorem d0_T {K : GK} {L : List Nat} {σ : GS} {q : Nat} (h : rdD K L σ q d0R) : rdQ K L σ q := ⟨d0R, ⟨fun k hk => rfl, fun k hk => rfl⟩, h⟩
theorem new_cpl {ar : Nat → Nat → Int32} (h5 : ∀ i, i < 155 → ar 5 i = bgF 5 5 (fun _ => 0) 0 i) (h4 : ar 4 0 = 0 ∧ ar 4 1 = 0) : cplI 5 5 0 0 0 0 newD ar :=
  cpl_start (k := 0) (f := fun _ => 0) (by omega) (by omega) (by omega) (by omega) newD_T ⟨rfl, rfl, rfl⟩ h5 h4
theorem wI_new {K : GK} {a : Nat} {L1 L : List Nat} {σ1 σ2 σ : GS} (ha : a ∈ L1) (hX : σ1 a = xO a 0 ∧ gmI K L1 σ1 (a + 1) (a + 2) 0 0 0 0 newD ∧ gmI K L1 σ1 (a + 246) (a + 247) 0 0 0 0 newD ∧ (σ1 (a + 2) = bdA 5 5 ∧ σ1 (a + 247) = bdA 5 5) ∧ (σ1 (a + 491) = rfsO (a + 491) 0 ∧ σ1 (a + 492) = iA K 4 (fun _ => 0) ∧ σ1 (a + 493) = iA K 4 (fun _ => 0)) ∧ (σ1 (a + 494) = inpO (a + 494) 0 0 ∧ σ1 (a + 495) = cA K 80 (fun _ => 0) ∧ σ1 (a + 496) = iA K 80 (fun _ => 0)) ∧ (σ1 (a + 497) = .inr (1, [.ref (a + 498), .ref (a + 502)]) ∧ rdD K L1 σ1 (a + 498) d0R ∧ rdD K L1 σ1 (a + 502) d0R))
    (hL1 : ∀ q, a ≤ q → q < a + 506 → q ∈ L1) (hLL : ∀ q, q ∈ L1 → q ∈ L) (hL : ∀ q, a ≤ q → q < a + 526 → q ∈ L) (hz : ∀ q, q ∈ L → q < a + 526) (hf : ∀ q, q < a + 506 → σ q = σ1 q) (hm : ∀ q, a + 506 ≤ q → q < a + 524 → σ q = σ2 q) (h2 : σ2 = mdl K (a + 506) sc0 (va_up ar0 5 (bgF 5 5 (ar0 5) 0)) σ2) (ho : σ (a + 524) = lA K 1 (fun _ => 0)) (hd : σ (a + 525) = dA K 1 (fun _ => 0)) : wI K a (nI 0) (a + 526) L σ := by
  obtain ⟨x0, x1, x2, ⟨x3, x4⟩, ⟨x5, x6, x7⟩, ⟨x8, x9, x10⟩, x11, x12, x13⟩ := hX
  have hO : wO a L1 σ1 0 := ⟨ha, x0⟩
  have hG1 : wG K a L1 σ1 (a + 1) 5 5 (a + 2) 0 0 0 0 newD := ⟨x1, newD_T, x3, Or.inl rfl⟩
  have hG2 : wG K a L1 σ1 (a + 246) 5 5 (a + 247) 0 0 0 0 newD := ⟨x2, newD_T, x4, Or.inr (Or.inl rfl)⟩
  have hR : wR K a L1 σ1 0 (fun _ => 0) (fun _ => 0) := ⟨⟨hL1 _ (by omega) (by omega), hL1 _ (by omega) (by omega), hL1 _ (by omega) (by omega)⟩, x5, x6, x7⟩
  have hN : wN K a L1 σ1 0 (fun _ => 0) := ⟨⟨hL1 _ (by omega) (by omega), hL1 _ (by omega) (by omega), hL1 _ (by omega) (by omega)⟩, 0, fun _ => 0, x8, x9, x10⟩
  have hF : wF K a L1 σ1 := ⟨hL1 _ (by omega) (by omega), x11, d0_T x13, d0_T x12⟩
  have hX9 : wX K a L σ 0 5 5 (a + 2) 0 0 0 0 newD 5 5 (a + 247) 0 0 0 0 newD 0 (fun _ => 0) (fun _ => 0) 0 (fun _ => 0) :=
    ⟨wO_eq hLL (hf _ (by omega)) hO, wG_eq hLL (fun q _ _ _ => hf q (by omega)) (hf _ (by omega)) hG1, wG_eq hLL (fun q _ _ _ => hf q (by omega)) (hf _ (by omega)) hG2, wR_eq hLL (fun q _ _ => hf q (by omega)) hR, wN_eq hLL (fun q _ _ => hf q (by omega)) hN, wF_eq hLL (fun q _ _ => hf q (by omega)) hF⟩
  have hY : wY K a L σ sc0 (va_up ar0 5 (bgF 5 5 (ar0 5) 0)) := ⟨⟨⟨hL _ (by omega) (by omega), _, ho⟩, ⟨hL _ (by omega) (by omega), _, hd⟩⟩, fun j hj => hL _ (by omega) (by omega), mdl_at hm h2⟩
  have e4 : (va_up ar0 5 (bgF 5 5 (ar0 5) 0)) 4 = ar0 4 := va_up_ne _ _ (by decide)
  refine ⟨0, 5, 5, a + 2, 0, 0, 0, 0, newD, 5, 5, a + 247, 0, 0, 0, 0, newD, 0, _, _, 0, _, sc0, _, hX9, hY, ⟨⟨⟨rfl, rfl, by omega, by omega, by omega, by omega⟩, rfl, ⟨0, by omega, rfl⟩, ⟨0, 0, by omega, by omega, rfl, rfl⟩, new_cpl (fun i hi => by rw [va_up_self]; rfl) ⟨by rw [e4]; rfl, by rw [e4]; rfl⟩⟩, Or.inl ⟨rfl, rfl, by rw [va_up_ne _ _ (by decide)]; rfl⟩, ⟨rfl, by omega, fun k hk => absurd hk (Nat.not_lt_zero _)⟩, rfl, by omega, by rw [va_up_ne _ _ (by decide)]; rfl⟩, rfl, hz, Nat.le_refl _⟩
set_option maxRecDepth 20000 in
theorem L_law {K : GK} {Γ : GX} {Po : GP} {mn : String} {b0 len : Nat} {xs : Nat → Int32} (hC : gC K Γ cL_law 9 RL mn 14 601024 7293034 (some .boolean) Po) (hZ9 : gCZ K Γ) (hS9 : gSc Γ b0 len xs) (hlen : len ≤ 2048) (hEnd : ∀ (z9 kk9 nn9 : Nat) (L9 : List Nat) (σ9 : GS) (ll : List (Option Value)), kk9 ≤ 601024 → nn9 ≤ 7293034 → G K Γ (z9, kk9, nn9, L9) σ9 1638 ll [.int (nI 1)]) {a : Nat} {σ : GS} : G K Γ (a, 0, 0, []) σ 0 [some (.ref b0), none, none, none, none, none, none, none, none] [] := by
  refine g_new (n := 3) hC gn_L_8 dL_law_0 ?_ ⟨by show 0 + 1 ≤ 601024; omega, by show 0 + 6 ≤ 7293034; omega⟩
  refine g_dup (n := 4) hC rfl dL_law_3 ?_
  refine g_callI (rt2 := none) (r := [.ref a]) hC gi_L_97 (X_new K (a := a) (List.mem_append_right _ (List.mem_singleton.mpr rfl)) (va_up_self _ _ _)) (by decide) (by decide) rfl rfl (Nat.le_of_ble_eq_true rfl) ⟨by show 0 + 1 + 505 ≤ 601024; omega, by show 0 + 6 + 3271 ≤ 7293034; omega⟩ dL_law_4 (fun rv z1 L1 σ1 hp => ?_)
  obtain ⟨e1, e2, e3, hX⟩ := hp
  rw [e1, e2]
  have hX8 : ∀ q, q ∈ L1 ↔ a ≤ q ∧ q < a + 506 := fun q => by
    rw [e3]
    constructor
    · intro h
      rcases ladd_mem _ h with h | h
      · rcases List.mem_append.mp h with h | h
        · exact absurd h List.not_mem_nil
        · have := List.mem_singleton.mp h
          have h9 : q = a := this
          omega
      · omega
    · intro h
      by_cases e : q = a
      · exact ladd_old (List.mem_append_right _ (List.mem_singleton.mpr e)) _
      · exact ladd_in (by omega) (by omega)
  refine g_astore_n (n := 8) (ll1 := [some (.ref b0), some (.ref a), none, none, none, none, none, none, none]) hC dL_law_7 rfl ?_
  refine g_new (n := 11) hC gn_L_98 dL_law_8 ?_ ⟨by show 0 + 1 + 505 + 1 ≤ 601024; omega, by show 0 + 6 + 3271 + 33 ≤ 7293034; omega⟩
  refine g_dup (n := 12) hC rfl dL_law_11 ?_
  refine g_callI (rt2 := none) (r := [.ref (a + 506)]) hC gi_L_100 (M_init K (M := a + 506) (List.mem_append_right _ (List.mem_singleton.mpr rfl)) (va_up_self _ _ _)) (by decide) (by decide) rfl rfl (Nat.le_of_ble_eq_true rfl) ⟨by show 0 + 1 + 505 + 1 + 17 ≤ 601024; omega, by show 0 + 6 + 3271 + 33 + 21218 ≤ 7293034; omega⟩ dL_law_12 (fun rv z2 L2 σ2 hp => ?_)
  obtain ⟨f1, f2, f3, f4⟩ := hp
  rw [f1, show z2 = a + 524 from f2.trans (by omega)]
  have hM8 : ∀ q, q ∈ L2 ↔ a ≤ q ∧ q < a + 524 := fun q => by
    rw [f3]
    constructor
    · intro h
      rcases ladd_mem _ h with h | h
      · rcases List.mem_append.mp h with h | h
        · have := (hX8 q).mp h
          omega
        · have := List.mem_singleton.mp h
          have h9 : q = a + 506 := this
          omega
      · omega
    · intro h
      by_cases e : q < a + 506
      · exact ladd_old (List.mem_append_left _ ((hX8 q).mpr ⟨h.1, e⟩)) _
      · by_cases e2 : q = a + 506
        · exact ladd_old (List.mem_append_right _ (List.mem_singleton.mpr e2)) _
        · exact ladd_in (by omega) (by omega)
  refine g_astore_n (n := 16) (ll1 := [some (.ref b0), some (.ref a), some (.ref (a + 506)), none, none, none, none, none, none]) hC dL_law_15 rfl ?_
  refine g_iconst (n := 17) (v := nI 1) hC (by decide) dL_law_16 ?_
  refine g_newaJ (n := 19) (N := 1) hC rfl (by omega) (gmem (i := 138) (by decide +kernel) (by decide +kernel)) dL_law_17 ?_ ⟨by show 0 + 1 + 505 + 1 + 17 + 1 ≤ 601024; omega, by show 0 + 6 + 3271 + 33 + 21218 + 1 ≤ 7293034; omega⟩
  refine g_astore_n (n := 20) (ll1 := [some (.ref b0), some (.ref a), some (.ref (a + 506)), some (.ref (a + 524)), none, none, none, none, none]) hC dL_law_19 rfl ?_
  refine g_iconst (n := 21) (v := nI 1) hC (by decide) dL_law_20 ?_
  refine g_newaD (n := 23) (N := 1) hC rfl (by omega) (gmem (i := 1322) (by decide +kernel) (by decide +kernel)) dL_law_21 ?_ ⟨by show 0 + 1 + 505 + 1 + 17 + 1 + 1 ≤ 601024; omega, by show 0 + 6 + 3271 + 33 + 21218 + 1 + 1 ≤ 7293034; omega⟩
  refine g_astore (n := 25) (ll1 := [some (.ref b0), some (.ref a), some (.ref (a + 506)), some (.ref (a + 524)), some (.ref (a + 525)), none, none, none, none]) hC dL_law_23 rfl ?_
  refine g_iconst (n := 26) (v := nI 0) hC (by decide) dL_law_25 ?_
  refine g_istore (n := 28) (ll1 := [some (.ref b0), some (.ref a), some (.ref (a + 506)), some (.ref (a + 524)), some (.ref (a + 525)), some (.int (nI 0)), none, none, none]) hC dL_law_26 rfl ?_
  refine L_loop hC hZ9 hS9 hlen hEnd (a := a) (len + 4) 0 _ _ _ _ _ (nI 0) (by omega) (by omega) ?_ (by show 0 + 1 + 505 + 1 + 17 + 1 + 1 ≤ 600 + 0; omega) (by show 0 + 6 + 3271 + 33 + 21218 + 1 + 1 ≤ 30000 + 7 * 0; omega)
  have hmem : ∀ q, q ∈ (L2 ++ [a + 524]) ++ [a + 525] ↔ a ≤ q ∧ q < a + 526 := fun q => by
    constructor
    · intro h
      rcases List.mem_append.mp h with h | h
      · rcases List.mem_append.mp h with h | h
        · have := (hM8 q).mp h
          omega
        · have := List.mem_singleton.mp h
          omega
      · have := List.mem_singleton.mp h
        omega
    · intro h
      by_cases e : q < a + 524
      · exact List.mem_append_left _ (List.mem_append_left _ ((hM8 q).mpr ⟨h.1, e⟩))
      · by_cases e2 : q = a + 524
        · exact List.mem_append_left _ (List.mem_append_right _ (List.mem_singleton.mpr e2))
        · exact List.mem_append_right _ (List.mem_singleton.mpr (by omega))
  refine wI_new (L1 := L1) (σ1 := σ1) (σ2 := σ2) ((hX8 a).mpr ⟨by omega, by omega⟩) ⟨hX.1, hX.2.1, hX.2.2.1, hX.2.2.2.1, hX.2.2.2.2.1, hX.2.2.2.2.2.1, hX.2.2.2.2.2.2.1⟩ (fun q h1 h2 => (hX8 q).mpr ⟨h1, h2⟩) (fun q h => (hmem q).mpr ⟨((hX8 q).mp h).1, by have := ((hX8 q).mp h).2; omega⟩) (fun q h1 h2 => (hmem q).mpr ⟨h1, h2⟩) (fun q h => ((hmem q).mp h).2) (fun q hq => ?_) (fun q h1 h2 => ?_) ?_ ?_ ?_
  · rw [va_up_ne _ _ (by show q ≠ a + 524 + 1; omega), va_up_ne _ _ (by show q ≠ a + 524; omega), f4, mdl_out (by omega), va_up_ne _ _ (by show q ≠ a + 506; omega)]
  · rw [va_up_ne _ _ (by show q ≠ a + 524 + 1; omega), va_up_ne _ _ (by show q ≠ a + 524; omega)]
  · rw [f4]; exact mdl_mdl
  · exact (va_up_ne _ _ (by show a + 524 ≠ a + 524 + 1; omega)).trans (va_up_self _ _ _)
  · exact va_up_self _ _ _

/-! ===== what the entry gives ===== -/
theorem gNew_kn {own : String} {index ci N : Nat} {fs : List Value} {s : State} {args : Array Value} (hts : ∀ w ∈ gTs, w.before args s = true) (hN : gNew own index ci N fs) : ∃ (cC : ClassId) (iS : Nat → Nat), ∀ q : vw_C, vwCl[ci]? = some q → u_Kn s q.1 q.2.1 q.2.2 cC iS := by
  obtain ⟨C, T, ty0, h1, h2, h3, h4, h5, h6, h7⟩ := hN
  obtain ⟨cC, iS, h⟩ := u_known (C := C) (T := T) (N := N) (n := N) hts h2 (hts _ h5)
  exact ⟨cC, iS, fun q hq => by rw [h1] at hq; cases hq; exact h⟩
theorem kn_all {s : State} {args : Array Value} (hts : ∀ w ∈ gTs, w.before args s = true) : ∃ (dC : Nat → ClassId) (dI : Nat → Nat → Nat), ∀ (k : Nat) (q : vw_C), vwCl[k]? = some q → u_Kn s q.1 q.2.1 q.2.2 (dC k) (dI k) := by
  obtain ⟨c0, i0, h0⟩ := gNew_kn hts gn_X2_9
  obtain ⟨c1, i1, h1⟩ := gNew_kn hts gn_X7_37
  obtain ⟨c2, i2, h2⟩ := gNew_kn hts gn_X7_7
  obtain ⟨c3, i3, h3⟩ := gNew_kn hts gn_X7_30
  obtain ⟨c4, i4, h4⟩ := gNew_kn hts gn_X2_30
  obtain ⟨c5, i5, h5⟩ := gNew_kn hts gn_X7_23
  obtain ⟨c6, i6, h6⟩ := gNew_kn hts gn_X2_24
  obtain ⟨c7, i7, h7⟩ := gNew_kn hts gn_L_8
  obtain ⟨c8, i8, h8⟩ := gNew_kn hts gn_L_98
  refine ⟨fun k => [c0, c1, c2, c3, c4, c5, c6, c7, c8].getD k c0, fun k => [i0, i1, i2, i3, i4, i5, i6, i7, i8].getD k i0, fun k q hq => ?_⟩
  match k, hq with
  | 0, hq => exact h0 q hq
  | 1, hq => exact h1 q hq
  | 2, hq => exact h2 q hq
  | 3, hq => exact h3 q hq
  | 4, hq => exact h4 q hq
  | 5, hq => exact h5 q hq
  | 6, hq => exact h6 q hq
  | 7, hq => exact h7 q hq
  | 8, hq => exact h8 q hq
  | k + 9, hq => simp [vwCl] at hq
theorem arr_of {s : State} {args : Array Value} {ty : FieldType} (h : (Cond.arrayClass ty).before args s = true) : ∃ c : ClassId, ArrOfT s c ty ∧ s.vm.findClass ("[" ++ ty.toString) = some c := by
  obtain ⟨c, k, comp, h1, h2, h3⟩ := Cond.arrayClass_spec h
  exact ⟨c, fun n z => ⟨fun k h => (by cases h), k, h2, comp, h3⟩, h1⟩
theorem arr_ob {s : State} {args : Array Value} (h : (Cond.arrayOver (.object RX6)).before args s = true) : ∃ c : ClassId, ArrOfT s c (.object RX6) ∧ va_RA s c (.object RX6) := by
  obtain ⟨comp, c, k, h1, h2, h3, h4, h5⟩ := Cond.arrayOver_spec h
  exact ⟨c, fun n z => ⟨fun k h => (by cases h), k, h3, comp, h4⟩, k, comp, h3, h4, h1, h5⟩
theorem arr_all {s : State} {args : Array Value} (hts : ∀ w ∈ lw_tbl, w.before args s = true) : ∃ cy : Nat → ClassId, ∀ (k : Nat) (q : ClassId × FieldType), (gTy cy)[k]? = some q → ArrOfT s q.1 q.2 ∧ va_RA s q.1 q.2 := by
  obtain ⟨c0, a0, f0⟩ := arr_of (hts (.arrayClass .int) (List.mem_of_getElem? (i := 227) (by decide +kernel)))
  obtain ⟨c1, a1, f1⟩ := arr_of (hts (.arrayClass .long) (List.mem_of_getElem? (i := 138) (by decide +kernel)))
  obtain ⟨c2, a2, f2⟩ := arr_of (hts (.arrayClass .char) (List.mem_of_getElem? (i := 249) (by decide +kernel)))
  obtain ⟨c3, a3, f3⟩ := arr_ob (hts (.arrayOver (.object RX6)) (List.mem_of_getElem? (i := 121) (by decide +kernel)))
  obtain ⟨c4, a4, f4⟩ := arr_of (hts (.arrayClass .double) (List.mem_of_getElem? (i := 1322) (by decide +kernel)))
  refine ⟨fun k => [c0, c1, c2, c3, c4].getD k c0, fun k q hq => ?_⟩
  match k, hq with
  | 0, hq => cases hq; exact ⟨a0, f0⟩
  | 1, hq => cases hq; exact ⟨a1, f1⟩
  | 2, hq => cases hq; exact ⟨a2, f2⟩
  | 3, hq => cases hq; exact ⟨a3, f3⟩
  | 4, hq => cases hq; exact ⟨a4, f4⟩
  | k + 5, hq => simp [gTy] at hq
theorem str_R {own tx : String} {k : Nat} {s : State} {args : Array Value} (h : (Cond.stringRef own k tx).before args s = true) : ∃ a : Nat, vk_R own k tx a s := by
  have hcur : ∃ cur, s.vm.findClass own = some cur := by
    have h1 := h
    simp only [Cond.before, Cond.holds, Cond.value] at h1
    cases hc : s.vm.findClass own with
    | none => simp [hc] at h1
    | some cur => exact ⟨cur, rfl⟩
  obtain ⟨cur, hc⟩ := hcur
  obtain ⟨k', cf, i, a, -, -, -, -, -, hev⟩ := Cond.stringRef_spec hc h
  exact ⟨a, vk_R.of h hev⟩
theorem ev_nest {s : State} {args : Array Value} (hts : ∀ w ∈ lw_tbl, w.before args s = true) : ∀ q ∈ nestL, va_Nw (.methodLinkNest q.1 q.2.1 q.2.2.1 q.2.2.2) s := List.forall_mem_cons.mpr ⟨va_Nw.of rfl (hts _ (List.mem_of_getElem? (i := 124) (by decide +kernel))), List.forall_mem_cons.mpr ⟨va_Nw.of rfl (hts _ (List.mem_of_getElem? (i := 140) (by decide +kernel))), List.forall_mem_cons.mpr ⟨va_Nw.of rfl (hts _ (List.mem_of_getElem? (i := 145) (by decide +kernel))), List.forall_mem_cons.mpr ⟨va_Nw.of rfl (hts _ (List.mem_of_getElem? (i := 210) (by decide +kernel))), List.forall_mem_cons.mpr ⟨va_Nw.of rfl (hts _ (List.mem_of_getElem? (i := 230) (by decide +kernel))), List.forall_mem_cons.mpr ⟨va_Nw.of rfl (hts _ (List.mem_of_getElem? (i := 252) (by decide +kernel))), List.forall_mem_cons.mpr ⟨va_Nw.of rfl (hts _ (List.mem_of_getElem? (i := 257) (by decide +kernel))), List.forall_mem_cons.mpr ⟨va_Nw.of rfl (hts _ (List.mem_of_getElem? (i := 837) (by decide +kernel))), fun _ h => absurd h List.not_mem_nil⟩⟩⟩⟩⟩⟩⟩⟩
theorem ev_str {s : State} {args : Array Value} (hts : ∀ w ∈ lw_tbl, w.before args s = true) : ∀ q ∈ strL, ∃ a : Nat, vk_R q.1 q.2.1 q.2.2 a s := List.forall_mem_cons.mpr ⟨str_R (hts _ (List.mem_of_getElem? (i := 376) (by decide +kernel))), List.forall_mem_cons.mpr ⟨str_R (hts _ (List.mem_of_getElem? (i := 403) (by decide +kernel))), List.forall_mem_cons.mpr ⟨str_R (hts _ (List.mem_of_getElem? (i := 447) (by decide +kernel))), List.forall_mem_cons.mpr ⟨str_R (hts _ (List.mem_of_getElem? (i := 468) (by decide +kernel))), List.forall_mem_cons.mpr ⟨str_R (hts _ (List.mem_of_getElem? (i := 475) (by decide +kernel))), List.forall_mem_cons.mpr ⟨str_R (hts _ (List.mem_of_getElem? (i := 501) (by decide +kernel))), List.forall_mem_cons.mpr ⟨str_R (hts _ (List.mem_of_getElem? (i := 511) (by decide +kernel))), List.forall_mem_cons.mpr ⟨str_R (hts _ (List.mem_of_getElem? (i := 571) (by decide +kernel))), List.forall_mem_cons.mpr ⟨str_R (hts _ (List.mem_of_getElem? (i := 645) (by decide +kernel))), List.forall_mem_cons.mpr ⟨str_R (hts _ (List.mem_of_getElem? (i := 664) (by decide +kernel))), List.forall_mem_cons.mpr ⟨str_R (hts _ (List.mem_of_getElem? (i := 688) (by decide +kernel))), List.forall_mem_cons.mpr ⟨str_R (hts _ (List.mem_of_getElem? (i := 725) (by decide +kernel))), List.forall_mem_cons.mpr ⟨str_R (hts _ (List.mem_of_getElem? (i := 737) (by decide +kernel))), List.forall_mem_cons.mpr ⟨str_R (hts _ (List.mem_of_getElem? (i := 751) (by decide +kernel))), List.forall_mem_cons.mpr ⟨str_R (hts _ (List.mem_of_getElem? (i := 760) (by decide +kernel))), List.forall_mem_cons.mpr ⟨str_R (hts _ (List.mem_of_getElem? (i := 780) (by decide +kernel))), List.forall_mem_cons.mpr ⟨str_R (hts _ (List.mem_of_getElem? (i := 801) (by decide +kernel))), List.forall_mem_cons.mpr ⟨str_R (hts _ (List.mem_of_getElem? (i := 806) (by decide +kernel))), List.forall_mem_cons.mpr ⟨str_R (hts _ (List.mem_of_getElem? (i := 831) (by decide +kernel))), List.forall_mem_cons.mpr ⟨str_R (hts _ (List.mem_of_getElem? (i := 836) (by decide +kernel))), List.forall_mem_cons.mpr ⟨str_R (hts _ (List.mem_of_getElem? (i := 864) (by decide +kernel))), List.forall_mem_cons.mpr ⟨str_R (hts _ (List.mem_of_getElem? (i := 873) (by decide +kernel))), List.forall_mem_cons.mpr ⟨str_R (hts _ (List.mem_of_getElem? (i := 885) (by decide +kernel))), List.forall_mem_cons.mpr ⟨str_R (hts _ (List.mem_of_getElem? (i := 906) (by decide +kernel))), List.forall_mem_cons.mpr ⟨str_R (hts _ (List.mem_of_getElem? (i := 937) (by decide +kernel))), List.forall_mem_cons.mpr ⟨str_R (hts _ (List.mem_of_getElem? (i := 945) (by decide +kernel))), fun _ h => absurd h List.not_mem_nil⟩⟩⟩⟩⟩⟩⟩⟩⟩⟩⟩⟩⟩⟩⟩⟩⟩⟩⟩⟩⟩⟩⟩⟩⟩⟩
theorem ev_nc {s : State} {args : Array Value} (hgv : (Jvm.Cond.and given_1 narrow_1).before args s = true) : ∀ q ∈ ncL, va_Nc q.1 q.2 s := List.forall_mem_cons.mpr ⟨va_Nc.of (flat_of_before _ hgv _ (by decide +kernel)), List.forall_mem_cons.mpr ⟨va_Nc.of (flat_of_before _ hgv _ (by decide +kernel)), List.forall_mem_cons.mpr ⟨va_Nc.of (flat_of_before _ hgv _ (by decide +kernel)), List.forall_mem_cons.mpr ⟨va_Nc.of (flat_of_before _ hgv _ (by decide +kernel)), List.forall_mem_cons.mpr ⟨va_Nc.of (flat_of_before _ hgv _ (by decide +kernel)), List.forall_mem_cons.mpr ⟨va_Nc.of (flat_of_before _ hgv _ (by decide +kernel)), List.forall_mem_cons.mpr ⟨va_Nc.of (flat_of_before _ hgv _ (by decide +kernel)), fun _ h => absurd h List.not_mem_nil⟩⟩⟩⟩⟩⟩⟩
theorem ev_all {s : State} {args : Array Value} (hts : ∀ w ∈ lw_tbl, w.before args s = true) (hgv : (Jvm.Cond.and given_1 narrow_1).before args s = true) : gEv s :=
  ⟨ev_nest hts, ev_str hts, fun C T h => va_Nw.of rfl (hts _ h), fun x h => va_Nw.of rfl (hts _ h), va_AO.of (hts (.arrayOver (.object RX6)) (List.mem_of_getElem? (i := 121) (by decide +kernel))), ev_nc hgv⟩
theorem ev_zq {s : State} {args : Array Value} {A : Nat → Prop} (hts : ∀ w ∈ lw_tbl, w.before args s = true) (hgv : (Jvm.Cond.and given_1 narrow_1).before args s = true) (hA : ∀ a : Nat, a < s.heap.size → ¬ A a) : gZq A s s.heap :=
  ⟨vx_Zqof (hts _ (List.mem_of_getElem? (i := 360) (by decide +kernel))) (hts _ (List.mem_of_getElem? (i := 55) (by decide +kernel))) (flat_of_before _ hgv _ (by decide +kernel)) hA, vx_Zqof (hts _ (List.mem_of_getElem? (i := 362) (by decide +kernel))) (hts _ (List.mem_of_getElem? (i := 55) (by decide +kernel))) (flat_of_before _ hgv _ (by decide +kernel)) hA⟩
