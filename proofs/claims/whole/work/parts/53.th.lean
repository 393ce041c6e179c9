/-! ===== methods that may throw ===== -/
def upN : List String := ["java/lang/RuntimeException", "java/lang/Exception"]
def gZq (A : Nat → Prop) (U : State) (H : Heap) : Prop := vx_Zq Bundle.tN "UNASSIGNED_STACK" Bundle.steD A U H ∧ vx_Zq Bundle.tN "SUPPRESSED_SENTINEL" Bundle.listD A U H
def gPreX (K : GK) (z : Nat) (L : List Nat) (σ : GS) : State → Prop := fun U => U.heap.size = z ∧ gW K.2.1 (fun _ => True) L σ U.heap ∧ va_K K.2.1 vwCl (gTy K.2.2) U ∧ gEv U ∧ gZq (gFr L z) U U.heap
abbrev GPX : Type := String → Nat → List Nat → GS → Prop
def gXC (D : va_G) (A : Nat → Prop) (Px : GPX) : String → State → State → Prop := fun E st t => (∃ (L : List Nat) (σ : GS), Px E t.heap.size L σ ∧ gW D A L σ t.heap) ∧ va_F A st t
/-- y's contract where it may throw: Po where it returns, Px where it throws -/
def gX (K : GK) (y : MethodName) (cc : ByteArray) (nL : Nat) (rt : Option FieldType) (d mc ms : Nat) (av : List Value) (z : Nat) (L : List Nat) (σ : GS) (Po : GP) (Px : GPX) : Prop :=
  K.1.stackTraces = false → vx_Met K.1 y (.code y cc nL rt :: gTs) (gRm d mc ms) (va_Pc av (gPreX K z L σ)) (gPost K.2.1 (gFr L z) Po) (gXC K.2.1 (gFr L z) Px) mc ms (gFr L z)
def gCX (K : GK) (Γ : GX) (nL : Nat) (Px : GPX) (mc ms : Nat) : Prop :=
  match K, Γ with
  | (l, D, _), (_, _, _, s, _, args, below, _, c, A, H0, Q) => l.stackTraces = false ∧ (∀ x ∈ c.exceptionTable.toList, False) ∧ c.maxLocals = nL ∧ H0 = s.heap ∧ gZq A s s.heap ∧ ∃ (Qc : Array Value → State → Outcome → State → Prop) (XC : String → State → State → Prop) (free : Nat → Prop), (∀ t, vx_MQ below Qc XC args s mc ms free t → Q t) ∧ (∀ q, A q → free q) ∧ ∀ E t, gXC D A Px E s t → XC E s t
theorem mq_vx {below : List Frame} {Qc : Array Value → State → Outcome → State → Prop} {XC : String → State → State → Prop} {a : Array Value} {s t : State} {mc ms : Nat} {free : Nat → Prop} (h : MQ below Qc a s mc ms free t) : vx_MQ below Qc XC a s mc ms free t := by
  obtain ⟨o, b1, b2, b3, b4⟩ := h
  exact ⟨o, b1, b2, Or.inl ⟨b3, b4⟩⟩
theorem g_introX {K : GK} {y : MethodName} {cc : ByteArray} {nL : Nat} {rt : Option FieldType} {d mc ms : Nat} {av : List Value} {z : Nat} {L : List Nat} {σ : GS} {Po : GP} {Px : GPX} (ll : List (Option Value)) (body : ∀ Γ : GX, gC K Γ cc nL y.cls y.name d mc ms rt Po → gCX K Γ nL Px mc ms → G K Γ (z, 0, 0, L) σ 0 ll []) (hen : g_en 0 (lv_args 0 av) ll) (hy : plainName y.cls = true := by decide) (hlen : (lg_sl av).length ≤ nL := by exact Nat.le_of_ble_eq_true rfl) (hll : nL = ll.length := by rfl) : gX K y cc nL rt d mc ms av z L σ Po Px := by
  intro hst
  refine vx_ofW (cc := cc) (maxL := nL) (ret := rt) hy rfl ?_
  intro p e s m args below meth c s₁ B hml htb hv
  obtain ⟨rfl, hsz, hWd, hK, hEv, hZ⟩ := hv
  have hts := atoms_spec (ws := .code y cc nL rt :: gTs) B.pre
  have hown : s.vm.findClass y.cls = some m.cls := findClass_of_methodNamed B.named
  have hmn : meth.name = y.name := (name_of_methodNamed B.named B.method).1
  obtain ⟨l, D, cy⟩ := K
  have hW : gW D (gFr L z) L σ s.heap := hWd.weaken (fun a ha => Or.inl ha)
  have hl := lv_entry av (n := nL) hlen
  rw [lg_entry_eq]
  generalize (lg_sl av ++ List.replicate (nL - (lg_sl av).length) Slot.unset).toArray = ls at hl ⊢
  have hg : g_has ls ll := ⟨hl.1.trans hll, hl.2.1, fun i v hv => hl.2.2 (i, v) (by have := g_en_get ll 0 _ hen i v hv; rwa [Nat.zero_add] at this)⟩
  exact body (p, e, gRm d mc ms, s, m, av.toArray, below, meth, c, gFr L z, s.heap, vx_MQ below (gPost D (gFr L z) Po) (gXC D (gFr L z) Px) av.toArray s mc ms (gFr L z))
    ⟨⟨B.exec, B.bytes, hml, hown, fun w hw => hts w (List.mem_cons_of_mem _ hw)⟩, B.returns, B.notSynchronized, ⟨hK, hEv⟩, fun q hq => Or.inr (hsz ▸ hq), ⟨Nat.le_refl _, Nat.le_refl _, Nat.le_refl _, Nat.le_refl _⟩, hmn, _, _, fun t h => mq_vx h, fun q h => h, fun r H locs L1 σ1 t h1 h2 hp ht => ⟨⟨r, L1, σ1, rfl, ht ▸ hp, ht ▸ h1⟩, va_S.F h2 ht⟩⟩
    ⟨hst, htb, hml, rfl, hZ, _, _, _, fun t h => h, fun q h => h, fun E t h => h⟩
    s.heap [] ls hsz hW va_S.rf hg
def isCD : Cond → Bool
  | .castable _ _ => true
  | .declares _ => true
  | _ => false
theorem isCD_of {w : Cond} (h : isCD w = true) : (∃ C T, w = .castable C T) ∨ ∃ x, w = .declares x := by
  cases w <;> first | exact Or.inl ⟨_, _, rfl⟩ | exact Or.inr ⟨_, rfl⟩ | exact absurd (show false = true from h) (by decide)
def okW (w : Cond) : Bool := goodWord w || isCD w
/-- what is decided of a class that is thrown -/
def thAt (ic : Nat) (cls : String) : List Cond := if cls = nsX then (ve_at RX7 ic).filter vx_no else vx_atS RX7 ic cls upN
def thOK (ik ic : Nat) (cls : String) : Prop := Bundle.fit cls = true ∧ (∀ w ∈ thAt ic cls, w ∈ lw_tbl ∧ okW w = true) ∧ (∀ w ∈ Cond.classLink RX7 ik cls :: Cond.initialized cls :: thAt ic cls, vx_ot w = true) ∧ Cond.classLink RX7 ik cls ∈ gTs ∧ Cond.initialized cls ∈ gTs
theorem th_of {ik ic : Nat} {cls : String} (h1 : Bundle.fit cls = true) (h2 : (thAt ic cls).all (fun w => decide (w ∈ lw_tbl) && okW w) = true) (h3 : (Cond.classLink RX7 ik cls :: Cond.initialized cls :: thAt ic cls).all vx_ot = true) (h4 : (decide (Cond.classLink RX7 ik cls ∈ lw_tbl) && decide (Cond.initialized cls ∈ lw_tbl)) = true) : thOK ik ic cls := by
  rw [Bool.and_eq_true] at h4
  exact ⟨h1, fun w hw => by have := List.all_eq_true.mp h2 w hw; rw [Bool.and_eq_true, decide_eq_true_eq] at this; exact this, List.all_eq_true.mp h3, List.mem_filter.mpr ⟨of_decide_eq_true h4.1, rfl⟩, List.mem_filter.mpr ⟨of_decide_eq_true h4.2, rfl⟩⟩
theorem th_IAE : thOK 44 48 "java/lang/IllegalArgumentException" := th_of (by decide +kernel) (by decide +kernel) (by decide +kernel) (by decide +kernel)
theorem th_IOB : thOK 77 81 "java/lang/IndexOutOfBoundsException" := th_of (by decide +kernel) (by decide +kernel) (by decide +kernel) (by decide +kernel)
theorem th_ISE : thOK 100 104 "java/lang/IllegalStateException" := th_of (by decide +kernel) (by decide +kernel) (by decide +kernel) (by decide +kernel)
theorem th_UOE : thOK 109 113 "java/lang/UnsupportedOperationException" := th_of (by decide +kernel) (by decide +kernel) (by decide +kernel) (by decide +kernel)
theorem th_NSE : thOK 187 191 "java/util/NoSuchElementException" := th_of (by decide +kernel) (by decide +kernel) (by decide +kernel) (by decide +kernel)
theorem g_throwS {K : GK} {Γ : GX} {cc : ByteArray} {nL d mc ms : Nat} {mn : String} {rt : Option FieldType} {Po : GP} {Px : GPX} {ω : GO} {σ : GS} {pc : Nat} {ll : List (Option Value)} {r : List Value} (hC : gC K Γ cc nL RX7 mn d mc ms rt Po) (hX : gCX K Γ nL Px mc ms) {ik is ic : Nat} {cls text : String} (hth : thOK ik ic cls) (hstr : (RX7, is, text) ∈ strL) (d0 : decode cc pc = .ok (.new ik, 3)) (d3 : decode cc (pc + 3) = .ok (.dup, 1)) (d4 : decode cc (pc + 4) = .ok (.ldc is, 2)) (d6 : decode cc (pc + 6) = .ok (.invokespecial ic, 3)) (d9 : decode cc (pc + 9) = .ok (.athrow, 1)) (hp : ∀ z1, ω.1 ≤ z1 → Px cls z1 ω.2.2.2 σ) (hd7 : 7 ≤ d := by decide) (hroom : ω.2.1 + 1 ≤ mc ∧ ω.2.2.1 + 6 ≤ ms := by exact ⟨Nat.le_of_ble_eq_true rfl, Nat.le_of_ble_eq_true rfl⟩) (hcat : (r.map fun v => v.category).sum ≤ 8 := by exact Nat.le_of_ble_eq_true rfl) (hll : ll.length = nL := by rfl) : G K Γ ω σ pc ll r := by
  obtain ⟨l, D, cy⟩ := K
  obtain ⟨p, e, R, s, m, args, below, meth, c, A, H0, Q⟩ := Γ
  obtain ⟨z, k9, n9, L⟩ := ω
  obtain ⟨⟨hx, hb, hml, hown, hts⟩, hrt, hlk, ⟨hK, hEv⟩, hA, hR, hmn, hE⟩ := hC
  obtain ⟨hst, htb, hmL, hH0, hZ, Qc, XC, free, hQ, hF, hXC⟩ := hX
  obtain ⟨t1, t2, t3, t4, t5⟩ := hth
  intro H locs ls hz hW hS hl
  subst hH0
  obtain ⟨sa, hsa⟩ := hEv.2.1 _ hstr
  have hatt : ∀ w ∈ thAt ic cls, w.before args s = true := by
    intro w hw
    obtain ⟨h1, h2⟩ := t2 w hw
    by_cases g : goodWord w = true
    · exact hts w (List.mem_filter.mpr ⟨h1, g⟩)
    · rcases (Bool.or_eq_true _ _).mp h2 with h2 | h2
      · exact absurd h2 g
      · rcases isCD_of h2 with ⟨C9, T9, rfl⟩ | ⟨x9, rfl⟩
        · exact (hEv.2.2.1 _ _ h1).use rfl
        · exact (hEv.2.2.2.1 _ h1).use rfl
  have hRf := hR.1
  have hRl := hR.2.1
  have hxx : ∀ t : State, s.vm.Alike t.vm → H.size ≤ t.heap.size → (∀ q : Nat, q < H.size → t.heap[q]? = H[q]?) → XC cls s t := fun t _ h1 h2 => hXC _ _ ⟨⟨L, σ, hp _ (by show z ≤ _; rw [← hz]; exact h1), hW.kept (fun q hq => h2 q (hW.lt hq))⟩, Nat.le_trans hS.1 h1, fun q h3 h4 => (h2 q (Nat.lt_of_lt_of_le h3 hS.1)).trans (hS.2.1 q h3 h4)⟩
  have hk1 : (Cond.classLink RX7 ik cls).before args s = true := hts _ t4
  have hk2 : (Cond.initialized cls).before args s = true := hts _ t5
  have hfr : 2 + 3 < R.frames := by omega
  have hlo : (r.map fun v => v.category).sum + (13 * (2 + 1) + 43) ≤ R.locals := by omega
  intro T hT X
  have hkey : ∃ t, Steps p.tables e below (T.setTop (F0 m pc ls r)) t ∧ vx_MQ below Qc XC args s mc ms free t := by
    by_cases hns : cls = nsX
    · subst hns
      rw [show thAt ic nsX = (ve_at RX7 ic).filter vx_no from if_pos rfl] at hatt t3
      exact ve_throwS hx hb hst hown hk1 hk2 hsa hatt t3 hZ.1 hZ.2 hS (hl.1.trans (hll.trans hmL.symm)) d0 d3 d4 d6 d9 (fun x hx => (htb x hx).elim) hfr hlo (Nat.le_trans hroom.1 hR.2.2.1) (Nat.le_trans hroom.2 hR.2.2.2) hlk hxx (fun q hq => hF _ (hS.2.2 q hq)) hroom.1 hroom.2 T hT X
    · rw [show thAt ic cls = vx_atS RX7 ic cls upN from if_neg hns] at hatt t3
      exact vx_throwS hx hb hst hown t1 (by decide +kernel) hk1 hk2 hsa hatt t3 hZ.1 hZ.2 hS (hl.1.trans (hll.trans hmL.symm)) d0 d3 d4 d6 d9 (fun x hx => (htb x hx).elim) hfr hlo (Nat.le_trans hroom.1 hR.2.2.1) (Nat.le_trans hroom.2 hR.2.2.2) hlk hxx (fun q hq => hF _ (hS.2.2 q hq)) hroom.1 hroom.2 T hT X
  obtain ⟨t, a1, b1⟩ := hkey
  exact ⟨t, a1, hQ t b1⟩
theorem g_throwSW {K : GK} {Γ : GX} {cc : ByteArray} {nL d mc ms : Nat} {mn : String} {rt : Option FieldType} {Po : GP} {Px : GPX} {ω : GO} {σ : GS} {pc : Nat} {ll : List (Option Value)} {r : List Value} (hC : gC K Γ cc nL RX7 mn d mc ms rt Po) (hX : gCX K Γ nL Px mc ms) {ik is ic : Nat} {cls text : String} (hth : thOK ik ic cls) (hstr : (RX7, is, text) ∈ strL) (d0 : decode cc pc = .ok (.new ik, 3)) (d3 : decode cc (pc + 3) = .ok (.dup, 1)) (d4 : decode cc (pc + 4) = .ok (.ldc_w is, 3)) (d6 : decode cc (pc + 7) = .ok (.invokespecial ic, 3)) (d9 : decode cc (pc + 10) = .ok (.athrow, 1)) (hp : ∀ z1, ω.1 ≤ z1 → Px cls z1 ω.2.2.2 σ) (hd7 : 7 ≤ d := by decide) (hroom : ω.2.1 + 1 ≤ mc ∧ ω.2.2.1 + 6 ≤ ms := by exact ⟨Nat.le_of_ble_eq_true rfl, Nat.le_of_ble_eq_true rfl⟩) (hcat : (r.map fun v => v.category).sum ≤ 8 := by exact Nat.le_of_ble_eq_true rfl) (hll : ll.length = nL := by rfl) : G K Γ ω σ pc ll r := by
  obtain ⟨l, D, cy⟩ := K
  obtain ⟨p, e, R, s, m, args, below, meth, c, A, H0, Q⟩ := Γ
  obtain ⟨z, k9, n9, L⟩ := ω
  obtain ⟨⟨hx, hb, hml, hown, hts⟩, hrt, hlk, ⟨hK, hEv⟩, hA, hR, hmn, hE⟩ := hC
  obtain ⟨hst, htb, hmL, hH0, hZ, Qc, XC, free, hQ, hF, hXC⟩ := hX
  obtain ⟨t1, t2, t3, t4, t5⟩ := hth
  intro H locs ls hz hW hS hl
  subst hH0
  obtain ⟨sa, hsa⟩ := hEv.2.1 _ hstr
  have hatt : ∀ w ∈ thAt ic cls, w.before args s = true := by
    intro w hw
    obtain ⟨h1, h2⟩ := t2 w hw
    by_cases g : goodWord w = true
    · exact hts w (List.mem_filter.mpr ⟨h1, g⟩)
    · rcases (Bool.or_eq_true _ _).mp h2 with h2 | h2
      · exact absurd h2 g
      · rcases isCD_of h2 with ⟨C9, T9, rfl⟩ | ⟨x9, rfl⟩
        · exact (hEv.2.2.1 _ _ h1).use rfl
        · exact (hEv.2.2.2.1 _ h1).use rfl
  have hRf := hR.1
  have hRl := hR.2.1
  have hxx : ∀ t : State, s.vm.Alike t.vm → H.size ≤ t.heap.size → (∀ q : Nat, q < H.size → t.heap[q]? = H[q]?) → XC cls s t := fun t _ h1 h2 => hXC _ _ ⟨⟨L, σ, hp _ (by show z ≤ _; rw [← hz]; exact h1), hW.kept (fun q hq => h2 q (hW.lt hq))⟩, Nat.le_trans hS.1 h1, fun q h3 h4 => (h2 q (Nat.lt_of_lt_of_le h3 hS.1)).trans (hS.2.1 q h3 h4)⟩
  have hk1 : (Cond.classLink RX7 ik cls).before args s = true := hts _ t4
  have hk2 : (Cond.initialized cls).before args s = true := hts _ t5
  have hfr : 2 + 3 < R.frames := by omega
  have hlo : (r.map fun v => v.category).sum + (13 * (2 + 1) + 43) ≤ R.locals := by omega
  intro T hT X
  have hkey : ∃ t, Steps p.tables e below (T.setTop (F0 m pc ls r)) t ∧ vx_MQ below Qc XC args s mc ms free t := by
    by_cases hns : cls = nsX
    · subst hns
      rw [show thAt ic nsX = (ve_at RX7 ic).filter vx_no from if_pos rfl] at hatt t3
      exact ve_throwSW hx hb hst hown hk1 hk2 hsa hatt t3 hZ.1 hZ.2 hS (hl.1.trans (hll.trans hmL.symm)) d0 d3 d4 d6 d9 (fun x hx => (htb x hx).elim) hfr hlo (Nat.le_trans hroom.1 hR.2.2.1) (Nat.le_trans hroom.2 hR.2.2.2) hlk hxx (fun q hq => hF _ (hS.2.2 q hq)) hroom.1 hroom.2 T hT X
    · rw [show thAt ic cls = vx_atS RX7 ic cls upN from if_neg hns] at hatt t3
      exact vx_throwSW hx hb hst hown t1 (by decide +kernel) hk1 hk2 hsa hatt t3 hZ.1 hZ.2 hS (hl.1.trans (hll.trans hmL.symm)) d0 d3 d4 d6 d9 (fun x hx => (htb x hx).elim) hfr hlo (Nat.le_trans hroom.1 hR.2.2.1) (Nat.le_trans hroom.2 hR.2.2.2) hlk hxx (fun q hq => hF _ (hS.2.2 q hq)) hroom.1 hroom.2 T hT X
  obtain ⟨t, a1, b1⟩ := hkey
  exact ⟨t, a1, hQ t b1⟩
