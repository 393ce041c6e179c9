/-! ===== the law's own methods: their tables of handlers ===== -/
/-- y's contract where it catches what its table names: nothing passes -/
def gHM (K : GK) (y : MethodName) (cc : ByteArray) (nL : Nat) (rt : Option FieldType) (hh : List (Nat × Nat × Nat × Nat)) (d mc ms : Nat) (av : List Value) (z : Nat) (L : List Nat) (σ : GS) (Po : GP) : Prop :=
  K.1.stackTraces = false → vx_Met K.1 y (.codeWith y cc nL rt hh :: gTs) (gRm d mc ms) (va_Pc av (gPreX K z L σ)) (gPost K.2.1 (gFr L z) Po) (gXC K.2.1 (gFr L z) (fun _ _ _ _ => False)) mc ms (gFr L z)
def gCH (K : GK) (Γ : GX) (nL : Nat) (hh : List (Nat × Nat × Nat × Nat)) : Prop :=
  match K, Γ with
  | (l, _, _), (_, _, _, s, _, _, _, _, c, A, H0, _) => l.stackTraces = false ∧ c.exceptionTable.toList = tableOf hh ∧ c.maxLocals = nL ∧ H0 = s.heap ∧ gZq A s s.heap
theorem g_introH {K : GK} {y : MethodName} {cc : ByteArray} {nL : Nat} {rt : Option FieldType} {hh : List (Nat × Nat × Nat × Nat)} {d mc ms : Nat} {av : List Value} {z : Nat} {L : List Nat} {σ : GS} {Po : GP} (ll : List (Option Value)) (body : ∀ Γ : GX, gC K Γ cc nL y.cls y.name d mc ms rt Po → gCH K Γ nL hh → G K Γ (z, 0, 0, L) σ 0 ll []) (hen : g_en 0 (lv_args 0 av) ll) (hy : plainName y.cls = true := by decide) (hlen : (lg_sl av).length ≤ nL := by exact Nat.le_of_ble_eq_true rfl) (hll : nL = ll.length := by rfl) : gHM K y cc nL rt hh d mc ms av z L σ Po := by
  intro hst
  refine vx_ofWH (cc := cc) (maxL := nL) (ret := rt) (hh := hh) hy rfl ?_
  intro p e s m args below meth c s₁ B hml hv
  obtain ⟨rfl, hsz, hWd, hK, hEv, hZ⟩ := hv
  have hts := atoms_spec (ws := .codeWith y cc nL rt hh :: gTs) B.pre
  have htb := vx_table (x := y) B (hts _ List.mem_cons_self)
  have hown : s.vm.findClass y.cls = some m.cls := findClass_of_methodNamed B.named
  have hmn : meth.name = y.name := (name_of_methodNamed B.named B.method).1
  obtain ⟨l, D, cy⟩ := K
  have hW : gW D (gFr L z) L σ s.heap := hWd.weaken (fun a ha => Or.inl ha)
  have hl := lv_entry av (n := nL) hlen
  rw [lg_entry_eq]
  generalize (lg_sl av ++ List.replicate (nL - (lg_sl av).length) Slot.unset).toArray = ls at hl ⊢
  have hg : g_has ls ll := ⟨hl.1.trans hll, hl.2.1, fun i v hv => hl.2.2 (i, v) (by have := g_en_get ll 0 _ hen i v hv; rwa [Nat.zero_add] at this)⟩
  exact body (p, e, gRm d mc ms, s, m, av.toArray, below, meth, c, gFr L z, s.heap, vx_MQ below (gPost D (gFr L z) Po) (gXC D (gFr L z) (fun _ _ _ _ => False)) av.toArray s mc ms (gFr L z))
    ⟨⟨B.exec, B.bytes, hml, hown, fun w hw => hts w (List.mem_cons_of_mem _ hw)⟩, B.returns, B.notSynchronized, ⟨hK, hEv⟩, fun q hq => Or.inr (hsz ▸ hq), ⟨Nat.le_refl _, Nat.le_refl _, Nat.le_refl _, Nat.le_refl _⟩, hmn, _, _, fun t h => mq_vx h, fun q h => h, fun r H locs L1 σ1 t h1 h2 hp ht => ⟨⟨r, L1, σ1, rfl, ht ▸ hp, ht ▸ h1⟩, va_S.F h2 ht⟩⟩
    ⟨hst, htb, hml, rfl, hZ⟩
    s.heap [] ls hsz hW va_S.rf hg
