/-! ===== contracts, entries, ends, calls ===== -/
def gFr (L : List Nat) (z : Nat) : Nat → Prop := fun q => q ∈ L ∨ z ≤ q
def gPost (D : va_G) (A : Nat → Prop) (Po : GP) : Array Value → State → Outcome → State → Prop := fun _ st oc t => (∃ (r : Option Value) (L : List Nat) (σ : GS), oc = .returned r ∧ Po r t.heap.size L σ ∧ gW D A L σ t.heap) ∧ va_F A st t
def gPre (K : GK) (z : Nat) (L : List Nat) (σ : GS) : State → Prop := fun U => U.heap.size = z ∧ gW K.2.1 (fun _ => True) L σ U.heap ∧ va_K K.2.1 vwCl (gTy K.2.2) U ∧ gEv U
abbrev gRm (d mc ms : Nat) : Room := { frames := d, cells := mc, slots := ms, locals := 64 * d }
/-- y's contract: from a heap of z cells whose world is σ over L, it answers r, and Po r (the heap's size) (the addresses) (the world) -/
def gM (K : GK) (y : MethodName) (cc : ByteArray) (nL : Nat) (rt : Option FieldType) (d mc ms : Nat) (av : List Value) (z : Nat) (L : List Nat) (σ : GS) (Po : GP) : Prop :=
  Met K.1 y (.code y cc nL rt :: gTs) (gRm d mc ms) (va_Pc av (gPre K z L σ)) (gPost K.2.1 (gFr L z) Po) mc ms (gFr L z)
/-- .. that makes nothing: the answer, and the world after it -/
def gT (K : GK) (y : MethodName) (cc : ByteArray) (nL : Nat) (rt : Option FieldType) (d : Nat) (av : List Value) (z : Nat) (L : List Nat) (σ : GS) (rv : Option Value) (σ1 : GS) : Prop :=
  gM K y cc nL rt d 0 0 av z L σ (fun r z1 L1 σ2 => r = rv ∧ z1 = z ∧ L1 = L ∧ σ2 = σ1)
theorem g_intro {K : GK} {y : MethodName} {cc : ByteArray} {nL : Nat} {rt : Option FieldType} {d mc ms : Nat} {av : List Value} {z : Nat} {L : List Nat} {σ : GS} {Po : GP} (ll : List (Option Value)) (body : ∀ Γ : GX, gC K Γ cc nL y.cls y.name d mc ms rt Po → G K Γ (z, 0, 0, L) σ 0 ll []) (hen : g_en 0 (lv_args 0 av) ll) (hy : plainName y.cls = true := by decide) (hlen : (lg_sl av).length ≤ nL := by exact Nat.le_of_ble_eq_true rfl) (hll : nL = ll.length := by rfl) : gM K y cc nL rt d mc ms av z L σ Po := by
  refine Met.ofW (cc := cc) (maxL := nL) (ret := rt) hy rfl ?_
  intro p e s m args below meth c s₁ B hml hv
  obtain ⟨rfl, hsz, hWd, hK, hEv⟩ := hv
  have hts := atoms_spec (ws := .code y cc nL rt :: gTs) B.pre
  have hown : s.vm.findClass y.cls = some m.cls := findClass_of_methodNamed B.named
  have hmn : meth.name = y.name := (name_of_methodNamed B.named B.method).1
  obtain ⟨l, D, cy⟩ := K
  have hW : gW D (gFr L z) L σ s.heap := hWd.weaken (fun a ha => Or.inl ha)
  have hl := lv_entry av (n := nL) hlen
  rw [lg_entry_eq]
  generalize (lg_sl av ++ List.replicate (nL - (lg_sl av).length) Slot.unset).toArray = ls at hl ⊢
  have hg : g_has ls ll := ⟨hl.1.trans hll, hl.2.1, fun i v hv => hl.2.2 (i, v) (by have := g_en_get ll 0 _ hen i v hv; rwa [Nat.zero_add] at this)⟩
  exact body (p, e, gRm d mc ms, s, m, av.toArray, below, meth, c, gFr L z, s.heap, MQ below (gPost D (gFr L z) Po) av.toArray s mc ms (gFr L z))
    ⟨⟨B.exec, B.bytes, hml, hown, fun w hw => hts w (List.mem_cons_of_mem _ hw)⟩, B.returns, B.notSynchronized, ⟨hK, hEv⟩, fun q hq => Or.inr (hsz ▸ hq), ⟨Nat.le_refl _, Nat.le_refl _, Nat.le_refl _, Nat.le_refl _⟩, hmn, _, _, fun t h => h, fun q h => h, fun r H locs L1 σ1 t h1 h2 hp ht => ⟨⟨r, L1, σ1, rfl, ht ▸ hp, ht ▸ h1⟩, va_S.F h2 ht⟩⟩
    s.heap [] ls hsz hW va_S.rf hg
section GE
variable {K : GK} {Γ : GX} {cc : ByteArray} {nL d mc ms : Nat} {own mn : String} {rt : Option FieldType} {Po : GP} {ω : GO} {σ : GS} {pc n : Nat} {ll ll1 : List (Option Value)} {r : List Value} {rest : List Value}
theorem g_iret {v : Int32} (hC : gC K Γ cc nL own mn d mc ms (some .int) Po)  (hd : decode cc pc = .ok (.ireturn, 1)) (hp : Po (some (.int v)) ω.1 ω.2.2.2 σ) (hk9 : ω.2.1 ≤ mc := by first | exact Nat.le_refl _ | decide | omega) (hn9 : ω.2.2.1 ≤ ms := by first | exact Nat.le_refl _ | decide | omega) : G K Γ ω σ pc ll [.int v] := by
  obtain ⟨l, D, cy⟩ := K
  obtain ⟨p, e, R, s, m, args, below, meth, c, A, H0, Q⟩ := Γ
  obtain ⟨z, k9, n9, L⟩ := ω
  obtain ⟨⟨hx, hb, hml, hown, hts⟩, hrt, hlk, ⟨hK, hEv⟩, hA, hR, hmn, hE⟩ := hC
  intro H locs ls hz hW hS hl
  obtain ⟨Qc, free, hQ, hF, hE⟩ := hE
  refine W.widen hk9 hn9 ?_
  intro T hT X
  obtain ⟨t, a1, b1⟩ := W.iret hx hb hrt (fun t ht hWm => hE _ H locs L σ t hW hS (hz ▸ hp) ht) (fun q hq => hF _ (hS.2.2 q hq)) hd hlk T hT X
  exact ⟨t, a1, hQ t b1⟩
theorem g_zret {v : Int32} {ty : FieldType} (hC : gC K Γ cc nL own mn d mc ms (some ty) Po) (hnw : narrow ty (.int v) = .int v) (hd : decode cc pc = .ok (.ireturn, 1)) (hp : Po (some (.int v)) ω.1 ω.2.2.2 σ) (hk9 : ω.2.1 ≤ mc := by first | exact Nat.le_refl _ | decide | omega) (hn9 : ω.2.2.1 ≤ ms := by first | exact Nat.le_refl _ | decide | omega) : G K Γ ω σ pc ll [.int v] := by
  obtain ⟨l, D, cy⟩ := K
  obtain ⟨p, e, R, s, m, args, below, meth, c, A, H0, Q⟩ := Γ
  obtain ⟨z, k9, n9, L⟩ := ω
  obtain ⟨⟨hx, hb, hml, hown, hts⟩, hrt, hlk, ⟨hK, hEv⟩, hA, hR, hmn, hE⟩ := hC
  intro H locs ls hz hW hS hl
  obtain ⟨Qc, free, hQ, hF, hE⟩ := hE
  refine W.widen hk9 hn9 ?_
  intro T hT X
  obtain ⟨t, a1, b1⟩ := W.zret hx hb hrt hnw (fun t ht hWm => hE _ H locs L σ t hW hS (hz ▸ hp) ht) (fun q hq => hF _ (hS.2.2 q hq)) hd hlk T hT X
  exact ⟨t, a1, hQ t b1⟩
theorem g_lret {v : Int64} (hC : gC K Γ cc nL own mn d mc ms (some .long) Po)  (hd : decode cc pc = .ok (.lreturn, 1)) (hp : Po (some (.long v)) ω.1 ω.2.2.2 σ) (hk9 : ω.2.1 ≤ mc := by first | exact Nat.le_refl _ | decide | omega) (hn9 : ω.2.2.1 ≤ ms := by first | exact Nat.le_refl _ | decide | omega) : G K Γ ω σ pc ll [.long v] := by
  obtain ⟨l, D, cy⟩ := K
  obtain ⟨p, e, R, s, m, args, below, meth, c, A, H0, Q⟩ := Γ
  obtain ⟨z, k9, n9, L⟩ := ω
  obtain ⟨⟨hx, hb, hml, hown, hts⟩, hrt, hlk, ⟨hK, hEv⟩, hA, hR, hmn, hE⟩ := hC
  intro H locs ls hz hW hS hl
  obtain ⟨Qc, free, hQ, hF, hE⟩ := hE
  refine W.widen hk9 hn9 ?_
  intro T hT X
  obtain ⟨t, a1, b1⟩ := W.lret hx hb hrt (fun t ht hWm => hE _ H locs L σ t hW hS (hz ▸ hp) ht) (fun q hq => hF _ (hS.2.2 q hq)) hd hlk T hT X
  exact ⟨t, a1, hQ t b1⟩
theorem g_dret {v : UInt64} (hC : gC K Γ cc nL own mn d mc ms (some .double) Po)  (hd : decode cc pc = .ok (.dreturn, 1)) (hp : Po (some (.double v)) ω.1 ω.2.2.2 σ) (hk9 : ω.2.1 ≤ mc := by first | exact Nat.le_refl _ | decide | omega) (hn9 : ω.2.2.1 ≤ ms := by first | exact Nat.le_refl _ | decide | omega) : G K Γ ω σ pc ll [.double v] := by
  obtain ⟨l, D, cy⟩ := K
  obtain ⟨p, e, R, s, m, args, below, meth, c, A, H0, Q⟩ := Γ
  obtain ⟨z, k9, n9, L⟩ := ω
  obtain ⟨⟨hx, hb, hml, hown, hts⟩, hrt, hlk, ⟨hK, hEv⟩, hA, hR, hmn, hE⟩ := hC
  intro H locs ls hz hW hS hl
  obtain ⟨Qc, free, hQ, hF, hE⟩ := hE
  refine W.widen hk9 hn9 ?_
  intro T hT X
  obtain ⟨t, a1, b1⟩ := W.dret hx hb hrt (fun t ht hWm => hE _ H locs L σ t hW hS (hz ▸ hp) ht) (fun q hq => hF _ (hS.2.2 q hq)) hd hlk T hT X
  exact ⟨t, a1, hQ t b1⟩
theorem g_aret {v : Nat} {cn : String} (hC : gC K Γ cc nL own mn d mc ms (some (.object cn)) Po)  (hd : decode cc pc = .ok (.areturn, 1)) (hp : Po (some (.ref v)) ω.1 ω.2.2.2 σ) (hk9 : ω.2.1 ≤ mc := by first | exact Nat.le_refl _ | decide | omega) (hn9 : ω.2.2.1 ≤ ms := by first | exact Nat.le_refl _ | decide | omega) : G K Γ ω σ pc ll [.ref v] := by
  obtain ⟨l, D, cy⟩ := K
  obtain ⟨p, e, R, s, m, args, below, meth, c, A, H0, Q⟩ := Γ
  obtain ⟨z, k9, n9, L⟩ := ω
  obtain ⟨⟨hx, hb, hml, hown, hts⟩, hrt, hlk, ⟨hK, hEv⟩, hA, hR, hmn, hE⟩ := hC
  intro H locs ls hz hW hS hl
  obtain ⟨Qc, free, hQ, hF, hE⟩ := hE
  refine W.widen hk9 hn9 ?_
  intro T hT X
  obtain ⟨t, a1, b1⟩ := W.aret hx hb hrt (Or.inl ⟨_, rfl⟩) (Or.inr ⟨_, rfl⟩) (fun t ht hWm => hE _ H locs L σ t hW hS (hz ▸ hp) ht) (fun q hq => hF _ (hS.2.2 q hq)) hd hlk T hT X
  exact ⟨t, a1, hQ t b1⟩
theorem g_vret (hC : gC K Γ cc nL own mn d mc ms none Po) (hd : decode cc pc = .ok (.return_, 1)) (hp : Po none ω.1 ω.2.2.2 σ) (hk9 : ω.2.1 ≤ mc := by first | exact Nat.le_refl _ | decide | omega) (hn9 : ω.2.2.1 ≤ ms := by first | exact Nat.le_refl _ | decide | omega) : G K Γ ω σ pc ll [] := by
  obtain ⟨l, D, cy⟩ := K
  obtain ⟨p, e, R, s, m, args, below, meth, c, A, H0, Q⟩ := Γ
  obtain ⟨z, k9, n9, L⟩ := ω
  obtain ⟨⟨hx, hb, hml, hown, hts⟩, hrt, hlk, ⟨hK, hEv⟩, hA, hR, hmn, hE⟩ := hC
  intro H locs ls hz hW hS hl
  obtain ⟨Qc, free, hQ, hF, hE⟩ := hE
  refine W.widen hk9 hn9 ?_
  intro T hT X
  obtain ⟨t, a1, b1⟩ := W.vret hx hb hrt (fun t ht hWm => hE _ H locs L σ t hW hS (hz ▸ hp) ht) (fun q hq => hF _ (hS.2.2 q hq)) hd hlk T hT X
  exact ⟨t, a1, hQ t b1⟩
theorem G.le {l1 : List (Option Value)} {st : List Value} (h : G K Γ ω σ pc l1 st) (hl : g_le l1 ll) : G K Γ ω σ pc ll st := by
  obtain ⟨l, D, cy⟩ := K
  obtain ⟨p, e, R, s, m, args, below, meth, c, A, H0, Q⟩ := Γ
  obtain ⟨z, k9, n9, L⟩ := ω
  exact fun H locs ls hz hW hS hg => h H locs ls hz hW hS (hg.le hl)
theorem G.nmi {x : Int32} (k : ∀ y : Int32, y = x → G K Γ ω σ pc ll (.int y :: r)) : G K Γ ω σ pc ll (.int x :: r) := k x rfl
theorem G.nml {x : Int64} (k : ∀ y : Int64, y = x → G K Γ ω σ pc ll (.long y :: r)) : G K Γ ω σ pc ll (.long x :: r) := k x rfl
theorem G.eqi {x y : Int32} (e : x = y) (k : G K Γ ω σ pc ll (.int y :: r)) : G K Γ ω σ pc ll (.int x :: r) := e ▸ k
theorem G.eql {x y : Int64} (e : x = y) (k : G K Γ ω σ pc ll (.long y :: r)) : G K Γ ω σ pc ll (.long x :: r) := e ▸ k
theorem G.eqv {x y : Value} (e : x = y) (k : G K Γ ω σ pc ll (y :: r)) : G K Γ ω σ pc ll (x :: r) := e ▸ k
theorem G.eqs {σ1 : GS} {st : List Value} (e : σ = σ1) (k : G K Γ ω σ1 pc ll st) : G K Γ ω σ pc ll st := e ▸ k
/-- behind a call -/
theorem g_after {l : Launch} {D : va_G} {p : Program} {e : Env} {R : Room} {s : State} {m : MethodId} {args : Array Value} {below : List Frame} {meth : Method} {c : Code} {A : Nat → Prop} {H0 : Heap} {Q : State → Prop} {H : Heap} {locs : List Loc} {ls : Array Slot} {z k9 n9 mc2 ms2 : Nat} {L : List Nat} {st : List Value} {a : Array Value} {Po2 : GP}
    (hr : va_Run p l e R s m args below meth c H locs k9 n9 mc2 ms2 (F0 m pc ls st) r (gPost D (gFr L z) Po2 a) (gFr L z)) (hz : H.size = z) (hW : gW D A L σ H) (hS : va_S A H0 H locs) (hA : ∀ q, H0.size ≤ q → A q)
    (kk : ∀ (rv : Option Value) (z1 : Nat) (L1 : List Nat) (σ1 : GS) (H1 : Heap) (locs1 : List Loc), Po2 rv z1 L1 σ1 → H1.size = z1 → gW D A L1 σ1 H1 → va_S A H0 H1 locs1 → W p l e R s m args below meth c H1 locs1 (k9 + mc2) (n9 + ms2) Q (F0 m (pc + 3) ls (rv.toList ++ r))) : W p l e R s m args below meth c H locs k9 n9 Q (F0 m pc ls st) := by
  have hsub : ∀ q, gFr L z q → A q := fun q h => h.elim (fun h => hW.A h) (fun h => hA q (Nat.le_trans hS.1 (hz ▸ h)))
  intro T hT X
  obtain ⟨v, st₀, t, T1, Lc, h0, X1, hL, e1, e2, ⟨⟨rv, L1, σ1, hv, hp, hw⟩, hF⟩, st9⟩ := hr T hT X
  cases hv
  obtain ⟨k1, k2, k3⟩ := vx_keep h0 e1 hS (fun q _ h => hsub q h) hsub hL hF
  obtain ⟨t2, a1, b1⟩ := kk v _ L1 σ1 T1.heap (locs ++ Lc) hp (by rw [e1]) (e1 ▸ hw.weaken (fun a ha => by obtain ⟨q0, hq⟩ := g_pk ha (rfl : σ1 a = σ1 a); exact hsub a (hw.2.2 q0 _ hq))) k3 T1 rfl X1
  exact ⟨t2, st9 t2 a1, b1⟩
theorem g_callV (hC : gC K Γ cc nL own mn d mc ms rt Po) {index b n2 nL2 d2 mc2 ms2 : Nat} {y : MethodName} {b2 : ByteArray} {rt2 : Option FieldType} {As st : List Value} {Po2 : GP} {ci N : Nat} {C : String} {T : u_T} {fs : List Value} (hV : gVir own index C y b2 nL2 rt2 n2) (hM : gM K y b2 nL2 rt2 d2 mc2 ms2 (.ref b :: As) ω.1 ω.2.2.2 σ Po2) (hb0 : b ∈ ω.2.2.2) (hσ : σ b = .inr (ci, fs)) (hci : vwCl[ci]? = some (C, T, N)) (hdep : d2 + 1 ≤ d) (hnl : nL2 ≤ 40) (hAs : As.length = n2) (hst : st = As.reverse ++ .ref b :: r) (hcat : (r.map fun v => v.category).sum ≤ 8) (hroom : ω.2.1 + mc2 ≤ mc ∧ ω.2.2.1 + ms2 ≤ ms) (hd : decode cc pc = .ok (.invokevirtual index, 3)) (kk : ∀ (rv : Option Value) (z1 : Nat) (L1 : List Nat) (σ1 : GS), Po2 rv z1 L1 σ1 → G K Γ (z1, ω.2.1 + mc2, ω.2.2.1 + ms2, L1) σ1 (pc + 3) ll (rv.toList ++ r)) (hll : ll.length = nL := by rfl) : G K Γ ω σ pc ll st := by
  obtain ⟨l, D, cy⟩ := K
  obtain ⟨p, e, R, s, m, args, below, meth, c, A, H0, Q⟩ := Γ
  obtain ⟨z, k9, n9, L⟩ := ω
  obtain ⟨⟨hx, hb, hml, hown, hts⟩, hrt, hlk, ⟨hK, hEv⟩, hA, hR, hmn, hE⟩ := hC
  intro H locs ls hz hW hS hl
  have hR2 : (gRm d2 mc2 ms2).frames + 1 ≤ R.frames ∧ 8 + (nL2 + 11) + (gRm d2 mc2 ms2).locals ≤ R.locals := ⟨Nat.le_trans hdep hR.1, by have := hR.2.1; show 8 + (nL2 + 11) + 64 * d2 ≤ _; omega⟩
  have hf9 : k9 + mc2 ≤ R.cells ∧ n9 + ms2 ≤ R.slots := ⟨Nat.le_trans hroom.1 hR.2.2.1, Nat.le_trans hroom.2 hR.2.2.2⟩
  obtain ⟨v1, v2, v3, v4, v5, v6⟩ := hV
  obtain ⟨q0, hq⟩ := g_pk hb0 hσ
  refine g_after (va_runV (C := C) (As := As) ⟨hx, hb, hml, hown, hts⟩ hM ⟨callB_of n2 hts (gGood v5 rfl) rfl rfl rfl (hts _ v4) (hts _ v1) v6 hR2, hts _ v2, hts _ v3⟩ ⟨fun a U g mk q => ⟨q.1, q.2.1, q.2.2.1, va_K.moved (u := U) (U := U.calling g mk a) (Vm.Alike.refl U.vm) q.2.2.2.1, gEv.same (u := U) (U := U.calling g mk a) rfl q.2.2.2.2⟩, va_recv hK hW.1 hci hq, fun U hU hWm => ⟨rfl, by rw [hU]; exact hz, by rw [hU]; exact hW.weaken (fun _ _ => trivial), va_K.moved hWm.alike hK, hEv.warm hWm⟩⟩ rfl hAs (hl.1.trans hll) hst (lv_room hcat) hd hf9) hz hW hS hA (fun rv z1 L1 σ1 H1 locs1 hp hz1 hW1 hS1 => kk rv z1 L1 σ1 hp H1 locs1 ls hz1 hW1 hS1 hl)
theorem g_callS (hC : gC K Γ cc nL own mn d mc ms rt Po) {index n2 nL2 d2 mc2 ms2 : Nat} {y : MethodName} {b2 : ByteArray} {rt2 : Option FieldType} {As st : List Value} {Po2 : GP} (hV : gSta own index y b2 nL2 rt2 n2) (hM : gM K y b2 nL2 rt2 d2 mc2 ms2 As ω.1 ω.2.2.2 σ Po2) (hdep : d2 + 1 ≤ d) (hnl : nL2 ≤ 40) (hAs : As.length = n2) (hst : st = As.reverse ++ r) (hcat : (r.map fun v => v.category).sum ≤ 8) (hroom : ω.2.1 + mc2 ≤ mc ∧ ω.2.2.1 + ms2 ≤ ms) (hd : decode cc pc = .ok (.invokestatic index, 3)) (kk : ∀ (rv : Option Value) (z1 : Nat) (L1 : List Nat) (σ1 : GS), Po2 rv z1 L1 σ1 → G K Γ (z1, ω.2.1 + mc2, ω.2.2.1 + ms2, L1) σ1 (pc + 3) ll (rv.toList ++ r)) (hll : ll.length = nL := by rfl) : G K Γ ω σ pc ll st := by
  obtain ⟨l, D, cy⟩ := K
  obtain ⟨p, e, R, s, m, args, below, meth, c, A, H0, Q⟩ := Γ
  obtain ⟨z, k9, n9, L⟩ := ω
  obtain ⟨⟨hx, hb, hml, hown, hts⟩, hrt, hlk, ⟨hK, hEv⟩, hA, hR, hmn, hE⟩ := hC
  intro H locs ls hz hW hS hl
  have hR2 : (gRm d2 mc2 ms2).frames + 1 ≤ R.frames ∧ 8 + (nL2 + 11) + (gRm d2 mc2 ms2).locals ≤ R.locals := ⟨Nat.le_trans hdep hR.1, by have := hR.2.1; show 8 + (nL2 + 11) + 64 * d2 ≤ _; omega⟩
  have hf9 : k9 + mc2 ≤ R.cells ∧ n9 + ms2 ≤ R.slots := ⟨Nat.le_trans hroom.1 hR.2.2.1, Nat.le_trans hroom.2 hR.2.2.2⟩
  obtain ⟨v1, v2, v4, v5, v6⟩ := hV
  refine g_after (va_runS (As := As) ⟨hx, hb, hml, hown, hts⟩ hM ⟨callB_of n2 hts (gGood v5 rfl) rfl rfl rfl (hts _ v4) (hts _ v1) v6 hR2, hts _ v2⟩ ⟨fun a U g mk q => ⟨q.1, q.2.1, q.2.2.1, va_K.moved (u := U) (U := U.calling g mk a) (Vm.Alike.refl U.vm) q.2.2.2.1, gEv.same (u := U) (U := U.calling g mk a) rfl q.2.2.2.2⟩, fun U hU hWm => ⟨rfl, by rw [hU]; exact hz, by rw [hU]; exact hW.weaken (fun _ _ => trivial), va_K.moved hWm.alike hK, hEv.warm hWm⟩⟩ rfl hAs (hl.1.trans hll) hst (lv_room hcat) hd hf9) hz hW hS hA (fun rv z1 L1 σ1 H1 locs1 hp hz1 hW1 hS1 => kk rv z1 L1 σ1 hp H1 locs1 ls hz1 hW1 hS1 hl)
theorem g_callI (hC : gC K Γ cc nL own mn d mc ms rt Po) {index b n2 nL2 d2 mc2 ms2 : Nat} {y : MethodName} {b2 : ByteArray} {rt2 : Option FieldType} {As st : List Value} {Po2 : GP} (hV : gIni own index y b2 nL2 n2) (hM : gM K y b2 nL2 none d2 mc2 ms2 (.ref b :: As) ω.1 ω.2.2.2 σ Po2) (hdep : d2 + 1 ≤ d) (hnl : nL2 ≤ 40) (hAs : As.length = n2) (hst : st = As.reverse ++ .ref b :: r) (hcat : (r.map fun v => v.category).sum ≤ 8) (hroom : ω.2.1 + mc2 ≤ mc ∧ ω.2.2.1 + ms2 ≤ ms) (hd : decode cc pc = .ok (.invokespecial index, 3)) (kk : ∀ (rv : Option Value) (z1 : Nat) (L1 : List Nat) (σ1 : GS), Po2 rv z1 L1 σ1 → G K Γ (z1, ω.2.1 + mc2, ω.2.2.1 + ms2, L1) σ1 (pc + 3) ll (rv.toList ++ r)) (hll : ll.length = nL := by rfl) : G K Γ ω σ pc ll st := by
  obtain ⟨l, D, cy⟩ := K
  obtain ⟨p, e, R, s, m, args, below, meth, c, A, H0, Q⟩ := Γ
  obtain ⟨z, k9, n9, L⟩ := ω
  obtain ⟨⟨hx, hb, hml, hown, hts⟩, hrt, hlk, ⟨hK, hEv⟩, hA, hR, hmn, hE⟩ := hC
  intro H locs ls hz hW hS hl
  have hR2 : (gRm d2 mc2 ms2).frames + 1 ≤ R.frames ∧ 8 + (nL2 + 11) + (gRm d2 mc2 ms2).locals ≤ R.locals := ⟨Nat.le_trans hdep hR.1, by have := hR.2.1; show 8 + (nL2 + 11) + 64 * d2 ≤ _; omega⟩
  have hf9 : k9 + mc2 ≤ R.cells ∧ n9 + ms2 ≤ R.slots := ⟨Nat.le_trans hroom.1 hR.2.2.1, Nat.le_trans hroom.2 hR.2.2.2⟩
  obtain ⟨v1, v2, v4, v5, v6, v7⟩ := hV
  refine g_after (va_runI (As := As) ⟨hx, hb, hml, hown, hts⟩ hM ⟨callB_of n2 hts (gGood v5 rfl) rfl rfl rfl (hts _ v4) (hts _ v1) v6 hR2, v7, hts _ v2⟩ ⟨fun a U g mk q => ⟨q.1, q.2.1, q.2.2.1, va_K.moved (u := U) (U := U.calling g mk a) (Vm.Alike.refl U.vm) q.2.2.2.1, gEv.same (u := U) (U := U.calling g mk a) rfl q.2.2.2.2⟩, fun U hU hWm => ⟨rfl, by rw [hU]; exact hz, by rw [hU]; exact hW.weaken (fun _ _ => trivial), va_K.moved hWm.alike hK, hEv.warm hWm⟩⟩ rfl hAs (hl.1.trans hll) hst (lv_room hcat) hd hf9) hz hW hS hA (fun rv z1 L1 σ1 H1 locs1 hp hz1 hW1 hS1 => kk rv z1 L1 σ1 hp H1 locs1 ls hz1 hW1 hS1 hl)
theorem g_callVN (hC : gC K Γ cc nL own mn d mc ms rt Po) {index b n2 nL2 d2 mc2 ms2 : Nat} {y : MethodName} {b2 : ByteArray} {rt2 : Option FieldType} {As st : List Value} {Po2 : GP} {ci N : Nat} {C host : String} {T : u_T} {fs : List Value} (hV : gVirN own index C y host b2 nL2 rt2 n2) (hM : gM K y b2 nL2 rt2 d2 mc2 ms2 (.ref b :: As) ω.1 ω.2.2.2 σ Po2) (hb0 : b ∈ ω.2.2.2) (hσ : σ b = .inr (ci, fs)) (hci : vwCl[ci]? = some (C, T, N)) (hdep : d2 + 1 ≤ d) (hnl : nL2 ≤ 40) (hAs : As.length = n2) (hst : st = As.reverse ++ .ref b :: r) (hcat : (r.map fun v => v.category).sum ≤ 8) (hroom : ω.2.1 + mc2 ≤ mc ∧ ω.2.2.1 + ms2 ≤ ms) (hd : decode cc pc = .ok (.invokevirtual index, 3)) (kk : ∀ (rv : Option Value) (z1 : Nat) (L1 : List Nat) (σ1 : GS), Po2 rv z1 L1 σ1 → G K Γ (z1, ω.2.1 + mc2, ω.2.2.1 + ms2, L1) σ1 (pc + 3) ll (rv.toList ++ r)) (hll : ll.length = nL := by rfl) : G K Γ ω σ pc ll st := by
  obtain ⟨l, D, cy⟩ := K
  obtain ⟨p, e, R, s, m, args, below, meth, c, A, H0, Q⟩ := Γ
  obtain ⟨z, k9, n9, L⟩ := ω
  obtain ⟨⟨hx, hb, hml, hown, hts⟩, hrt, hlk, ⟨hK, hEv⟩, hA, hR, hmn, hE⟩ := hC
  intro H locs ls hz hW hS hl
  have hR2 : (gRm d2 mc2 ms2).frames + 1 ≤ R.frames ∧ 8 + (nL2 + 11) + (gRm d2 mc2 ms2).locals ≤ R.locals := ⟨Nat.le_trans hdep hR.1, by have := hR.2.1; show 8 + (nL2 + 11) + 64 * d2 ≤ _; omega⟩
  have hf9 : k9 + mc2 ≤ R.cells ∧ n9 + ms2 ≤ R.slots := ⟨Nat.le_trans hroom.1 hR.2.2.1, Nat.le_trans hroom.2 hR.2.2.2⟩
  obtain ⟨v1, v2, v3, v4, v5, v6⟩ := hV
  obtain ⟨q0, hq⟩ := g_pk hb0 hσ
  refine g_after (va_runVN (C := C) (As := As) ⟨hx, hb, hml, hown, hts⟩ hM ⟨va_cnB n2 hts (gGood v5 rfl) rfl rfl rfl (hEv.1 _ v1) (hts _ v4) v6 hR2, hts _ v2, hts _ v3⟩ ⟨fun a U g mk q => ⟨q.1, q.2.1, q.2.2.1, va_K.moved (u := U) (U := U.calling g mk a) (Vm.Alike.refl U.vm) q.2.2.2.1, gEv.same (u := U) (U := U.calling g mk a) rfl q.2.2.2.2⟩, va_recv hK hW.1 hci hq, fun U hU hWm => ⟨rfl, by rw [hU]; exact hz, by rw [hU]; exact hW.weaken (fun _ _ => trivial), va_K.moved hWm.alike hK, hEv.warm hWm⟩⟩ rfl hAs (hl.1.trans hll) hst (lv_room hcat) hd hf9) hz hW hS hA (fun rv z1 L1 σ1 H1 locs1 hp hz1 hW1 hS1 => kk rv z1 L1 σ1 hp H1 locs1 ls hz1 hW1 hS1 hl)
theorem g_callIN (hC : gC K Γ cc nL own mn d mc ms rt Po) {index b n2 nL2 d2 mc2 ms2 : Nat} {y : MethodName} {b2 : ByteArray} {rt2 : Option FieldType} {As st : List Value} {Po2 : GP} {host : String} (hV : gIniN own index y host b2 nL2 n2) (hM : gM K y b2 nL2 none d2 mc2 ms2 (.ref b :: As) ω.1 ω.2.2.2 σ Po2) (hdep : d2 + 1 ≤ d) (hnl : nL2 ≤ 40) (hAs : As.length = n2) (hst : st = As.reverse ++ .ref b :: r) (hcat : (r.map fun v => v.category).sum ≤ 8) (hroom : ω.2.1 + mc2 ≤ mc ∧ ω.2.2.1 + ms2 ≤ ms) (hd : decode cc pc = .ok (.invokespecial index, 3)) (kk : ∀ (rv : Option Value) (z1 : Nat) (L1 : List Nat) (σ1 : GS), Po2 rv z1 L1 σ1 → G K Γ (z1, ω.2.1 + mc2, ω.2.2.1 + ms2, L1) σ1 (pc + 3) ll (rv.toList ++ r)) (hll : ll.length = nL := by rfl) : G K Γ ω σ pc ll st := by
  obtain ⟨l, D, cy⟩ := K
  obtain ⟨p, e, R, s, m, args, below, meth, c, A, H0, Q⟩ := Γ
  obtain ⟨z, k9, n9, L⟩ := ω
  obtain ⟨⟨hx, hb, hml, hown, hts⟩, hrt, hlk, ⟨hK, hEv⟩, hA, hR, hmn, hE⟩ := hC
  intro H locs ls hz hW hS hl
  have hR2 : (gRm d2 mc2 ms2).frames + 1 ≤ R.frames ∧ 8 + (nL2 + 11) + (gRm d2 mc2 ms2).locals ≤ R.locals := ⟨Nat.le_trans hdep hR.1, by have := hR.2.1; show 8 + (nL2 + 11) + 64 * d2 ≤ _; omega⟩
  have hf9 : k9 + mc2 ≤ R.cells ∧ n9 + ms2 ≤ R.slots := ⟨Nat.le_trans hroom.1 hR.2.2.1, Nat.le_trans hroom.2 hR.2.2.2⟩
  obtain ⟨v1, v2, v4, v5, v6, v7⟩ := hV
  refine g_after (va_runIN (As := As) ⟨hx, hb, hml, hown, hts⟩ hM ⟨va_cnB n2 hts (gGood v5 rfl) rfl rfl rfl (hEv.1 _ v1) (hts _ v4) v6 hR2, v7, hts _ v2⟩ ⟨fun a U g mk q => ⟨q.1, q.2.1, q.2.2.1, va_K.moved (u := U) (U := U.calling g mk a) (Vm.Alike.refl U.vm) q.2.2.2.1, gEv.same (u := U) (U := U.calling g mk a) rfl q.2.2.2.2⟩, fun U hU hWm => ⟨rfl, by rw [hU]; exact hz, by rw [hU]; exact hW.weaken (fun _ _ => trivial), va_K.moved hWm.alike hK, hEv.warm hWm⟩⟩ rfl hAs (hl.1.trans hll) hst (lv_room hcat) hd hf9) hz hW hS hA (fun rv z1 L1 σ1 H1 locs1 hp hz1 hW1 hS1 => kk rv z1 L1 σ1 hp H1 locs1 ls hz1 hW1 hS1 hl)
theorem g_cV (hC : gC K Γ cc nL own mn d mc ms rt Po) {index n2 nL2 d2 : Nat} {y : MethodName} {b2 : ByteArray} {rt2 : Option FieldType} {As st : List Value} {σ1 : GS} {v : Value} {b ci N : Nat} {C : String} {T : u_T} {fs : List Value} (hV : gVir own index C y b2 nL2 rt2 n2) (hb0 : b ∈ ω.2.2.2) (hσ : σ b = .inr (ci, fs)) (hM : gT K y b2 nL2 rt2 d2 (.ref b :: As) ω.1 ω.2.2.2 σ (some v) σ1) (hd : decode cc pc = .ok (.invokevirtual index, 3)) (kk : G K Γ ω σ1 n ll (v :: r)) (hci : vwCl[ci]? = some (C, T, N) := by rfl) (hst : st = As.reverse ++ .ref b :: r := by rfl) (hdep : d2 + 1 ≤ d := by decide) (hnl : nL2 ≤ 40 := by decide) (hAs : As.length = n2 := by rfl) (hcat : (r.map fun v => v.category).sum ≤ 8 := by exact Nat.le_of_ble_eq_true rfl) (hroom : ω.2.1 ≤ mc ∧ ω.2.2.1 ≤ ms := by exact ⟨Nat.le_refl _, Nat.le_refl _⟩) (hll : ll.length = nL := by rfl) (hn : n = pc + 3 := by rfl) : G K Γ ω σ pc ll st := by
  subst hn
  refine g_callV hC hV hM hb0 hσ hci hdep hnl hAs hst hcat hroom hd (fun rv z1 L1 σ2 hp => ?_) hll
  obtain ⟨rfl, rfl, rfl, rfl⟩ := hp
  obtain ⟨z, k9, n9, L⟩ := ω
  exact kk
theorem g_cVv (hC : gC K Γ cc nL own mn d mc ms rt Po) {index n2 nL2 d2 : Nat} {y : MethodName} {b2 : ByteArray} {rt2 : Option FieldType} {As st : List Value} {σ1 : GS}  {b ci N : Nat} {C : String} {T : u_T} {fs : List Value} (hV : gVir own index C y b2 nL2 rt2 n2) (hb0 : b ∈ ω.2.2.2) (hσ : σ b = .inr (ci, fs)) (hM : gT K y b2 nL2 rt2 d2 (.ref b :: As) ω.1 ω.2.2.2 σ (none) σ1) (hd : decode cc pc = .ok (.invokevirtual index, 3)) (kk : G K Γ ω σ1 n ll (r)) (hci : vwCl[ci]? = some (C, T, N) := by rfl) (hst : st = As.reverse ++ .ref b :: r := by rfl) (hdep : d2 + 1 ≤ d := by decide) (hnl : nL2 ≤ 40 := by decide) (hAs : As.length = n2 := by rfl) (hcat : (r.map fun v => v.category).sum ≤ 8 := by exact Nat.le_of_ble_eq_true rfl) (hroom : ω.2.1 ≤ mc ∧ ω.2.2.1 ≤ ms := by exact ⟨Nat.le_refl _, Nat.le_refl _⟩) (hll : ll.length = nL := by rfl) (hn : n = pc + 3 := by rfl) : G K Γ ω σ pc ll st := by
  subst hn
  refine g_callV hC hV hM hb0 hσ hci hdep hnl hAs hst hcat hroom hd (fun rv z1 L1 σ2 hp => ?_) hll
  obtain ⟨rfl, rfl, rfl, rfl⟩ := hp
  obtain ⟨z, k9, n9, L⟩ := ω
  exact kk
theorem g_cS (hC : gC K Γ cc nL own mn d mc ms rt Po) {index n2 nL2 d2 : Nat} {y : MethodName} {b2 : ByteArray} {rt2 : Option FieldType} {As st : List Value} {σ1 : GS} {v : Value}  (hV : gSta own index y b2 nL2 rt2 n2)  (hM : gT K y b2 nL2 rt2 d2 (As) ω.1 ω.2.2.2 σ (some v) σ1) (hd : decode cc pc = .ok (.invokestatic index, 3)) (kk : G K Γ ω σ1 n ll (v :: r)) (hst : st = As.reverse ++ r := by rfl) (hdep : d2 + 1 ≤ d := by decide) (hnl : nL2 ≤ 40 := by decide) (hAs : As.length = n2 := by rfl) (hcat : (r.map fun v => v.category).sum ≤ 8 := by exact Nat.le_of_ble_eq_true rfl) (hroom : ω.2.1 ≤ mc ∧ ω.2.2.1 ≤ ms := by exact ⟨Nat.le_refl _, Nat.le_refl _⟩) (hll : ll.length = nL := by rfl) (hn : n = pc + 3 := by rfl) : G K Γ ω σ pc ll st := by
  subst hn
  refine g_callS hC hV hM hdep hnl hAs hst hcat hroom hd (fun rv z1 L1 σ2 hp => ?_) hll
  obtain ⟨rfl, rfl, rfl, rfl⟩ := hp
  obtain ⟨z, k9, n9, L⟩ := ω
  exact kk
theorem g_cSv (hC : gC K Γ cc nL own mn d mc ms rt Po) {index n2 nL2 d2 : Nat} {y : MethodName} {b2 : ByteArray} {rt2 : Option FieldType} {As st : List Value} {σ1 : GS}   (hV : gSta own index y b2 nL2 rt2 n2)  (hM : gT K y b2 nL2 rt2 d2 (As) ω.1 ω.2.2.2 σ (none) σ1) (hd : decode cc pc = .ok (.invokestatic index, 3)) (kk : G K Γ ω σ1 n ll (r)) (hst : st = As.reverse ++ r := by rfl) (hdep : d2 + 1 ≤ d := by decide) (hnl : nL2 ≤ 40 := by decide) (hAs : As.length = n2 := by rfl) (hcat : (r.map fun v => v.category).sum ≤ 8 := by exact Nat.le_of_ble_eq_true rfl) (hroom : ω.2.1 ≤ mc ∧ ω.2.2.1 ≤ ms := by exact ⟨Nat.le_refl _, Nat.le_refl _⟩) (hll : ll.length = nL := by rfl) (hn : n = pc + 3 := by rfl) : G K Γ ω σ pc ll st := by
  subst hn
  refine g_callS hC hV hM hdep hnl hAs hst hcat hroom hd (fun rv z1 L1 σ2 hp => ?_) hll
  obtain ⟨rfl, rfl, rfl, rfl⟩ := hp
  obtain ⟨z, k9, n9, L⟩ := ω
  exact kk
theorem g_cVN (hC : gC K Γ cc nL own mn d mc ms rt Po) {index n2 nL2 d2 : Nat} {y : MethodName} {b2 : ByteArray} {rt2 : Option FieldType} {As st : List Value} {σ1 : GS} {v : Value} {b ci N : Nat} {C host : String} {T : u_T} {fs : List Value} (hV : gVirN own index C y host b2 nL2 rt2 n2) (hb0 : b ∈ ω.2.2.2) (hσ : σ b = .inr (ci, fs)) (hM : gT K y b2 nL2 rt2 d2 (.ref b :: As) ω.1 ω.2.2.2 σ (some v) σ1) (hd : decode cc pc = .ok (.invokevirtual index, 3)) (kk : G K Γ ω σ1 n ll (v :: r)) (hci : vwCl[ci]? = some (C, T, N) := by rfl) (hst : st = As.reverse ++ .ref b :: r := by rfl) (hdep : d2 + 1 ≤ d := by decide) (hnl : nL2 ≤ 40 := by decide) (hAs : As.length = n2 := by rfl) (hcat : (r.map fun v => v.category).sum ≤ 8 := by exact Nat.le_of_ble_eq_true rfl) (hroom : ω.2.1 ≤ mc ∧ ω.2.2.1 ≤ ms := by exact ⟨Nat.le_refl _, Nat.le_refl _⟩) (hll : ll.length = nL := by rfl) (hn : n = pc + 3 := by rfl) : G K Γ ω σ pc ll st := by
  subst hn
  refine g_callVN hC hV hM hb0 hσ hci hdep hnl hAs hst hcat hroom hd (fun rv z1 L1 σ2 hp => ?_) hll
  obtain ⟨rfl, rfl, rfl, rfl⟩ := hp
  obtain ⟨z, k9, n9, L⟩ := ω
  exact kk
theorem g_cVNv (hC : gC K Γ cc nL own mn d mc ms rt Po) {index n2 nL2 d2 : Nat} {y : MethodName} {b2 : ByteArray} {rt2 : Option FieldType} {As st : List Value} {σ1 : GS}  {b ci N : Nat} {C host : String} {T : u_T} {fs : List Value} (hV : gVirN own index C y host b2 nL2 rt2 n2) (hb0 : b ∈ ω.2.2.2) (hσ : σ b = .inr (ci, fs)) (hM : gT K y b2 nL2 rt2 d2 (.ref b :: As) ω.1 ω.2.2.2 σ (none) σ1) (hd : decode cc pc = .ok (.invokevirtual index, 3)) (kk : G K Γ ω σ1 n ll (r)) (hci : vwCl[ci]? = some (C, T, N) := by rfl) (hst : st = As.reverse ++ .ref b :: r := by rfl) (hdep : d2 + 1 ≤ d := by decide) (hnl : nL2 ≤ 40 := by decide) (hAs : As.length = n2 := by rfl) (hcat : (r.map fun v => v.category).sum ≤ 8 := by exact Nat.le_of_ble_eq_true rfl) (hroom : ω.2.1 ≤ mc ∧ ω.2.2.1 ≤ ms := by exact ⟨Nat.le_refl _, Nat.le_refl _⟩) (hll : ll.length = nL := by rfl) (hn : n = pc + 3 := by rfl) : G K Γ ω σ pc ll st := by
  subst hn
  refine g_callVN hC hV hM hb0 hσ hci hdep hnl hAs hst hcat hroom hd (fun rv z1 L1 σ2 hp => ?_) hll
  obtain ⟨rfl, rfl, rfl, rfl⟩ := hp
  obtain ⟨z, k9, n9, L⟩ := ω
  exact kk
theorem g_new {N ci : Nat} {fs : List Value} {index : Nat} (hC : gC K Γ cc nL own mn d mc ms rt Po) (hN : gNew own index ci N fs) (hd : decode cc pc = .ok (.new index, 3)) (kk : G K Γ (ω.1 + 1, ω.2.1 + 1, ω.2.2.1 + N, ω.2.2.2 ++ [ω.1]) (va_up σ ω.1 (.inr (ci, fs))) n ll (.ref ω.1 :: r)) (hroom : ω.2.1 + 1 ≤ mc ∧ ω.2.2.1 + N ≤ ms) (hn : n = pc + 3 := by rfl) : G K Γ ω σ pc ll r := by
  subst hn
  obtain ⟨l, D, cy⟩ := K
  obtain ⟨p, e, R, s, m, args, below, meth, c, A, H0, Q⟩ := Γ
  obtain ⟨z, k9, n9, L⟩ := ω
  obtain ⟨⟨hx, hb, hml, hown, hts⟩, hrt, hlk, ⟨hK, hEv⟩, hA, hR, hmn, hE⟩ := hC
  intro H locs ls hz hW hS hl
  obtain ⟨C, T, ty0, hc, hin, hty, v1, v2, v3, hfs⟩ := hN
  have hKn := hK.1 ci _ hc
  refine W.newcK hx hb hown (hts _ v1) (hts _ v2) (hts _ v3) rfl hd (Nat.le_trans hroom.1 hR.2.2.1) (Nat.le_trans hroom.2 hR.2.2.2) hKn.2.1 rfl fun H1 kC hkC e1 z1 o1 => ?_
  subst hz
  exact kk H1 locs ls z1 (hW.push (hA _ hS.1) ⟨_, hc, (u_born ty0 hts hin hKn hkC e1 hty).to hfs⟩ o1) ⟨Nat.le_trans hS.1 (by omega), fun x h1 h2 => (o1 x (Nat.lt_of_lt_of_le h1 hS.1)).trans (hS.2.1 x h1 h2), hS.2.2⟩ hl
theorem g_newaI {N : Nat} {i : Int32} (hC : gC K Γ cc nL own mn d mc ms rt Po) (hi : i = nI N) (hN : N < 20000) (hw : Cond.arrayClass .int ∈ gTs) (hd : decode cc pc = .ok (.newarray .int, 2)) (kk : G K Γ (ω.1 + 1, ω.2.1 + 1, ω.2.2.1 + N, ω.2.2.2 ++ [ω.1]) (va_up σ ω.1 (iA K N (fun _ => 0))) n ll (.ref ω.1 :: r)) (hroom : ω.2.1 + 1 ≤ mc ∧ ω.2.2.1 + N ≤ ms) (hn : n = pc + 2 := by rfl) : G K Γ ω σ pc ll (.int i :: r) := by
  subst hn
  subst hi
  obtain ⟨l, D, cy⟩ := K
  obtain ⟨p, e, R, s, m, args, below, meth, c, A, H0, Q⟩ := Γ
  obtain ⟨z, k9, n9, L⟩ := ω
  obtain ⟨⟨hx, hb, hml, hown, hts⟩, hrt, hlk, ⟨hK, hEv⟩, hA, hR, hmn, hE⟩ := hC
  intro H locs ls hz hW hS hl
  have hcl : (nI N).toNatClampNeg = N := nI_clamp (by omega)
  refine va_newaK hx hb (atype := .int) (hts _ hw) rfl hd rfl (nI_pos (by omega)) hcl (by show N * 4 ≤ _; omega) (Nat.le_trans hroom.1 hR.2.2.1) (Nat.le_trans hroom.2 hR.2.2.2) rfl fun H1 cA e1 z1 o1 hAr hNm => ?_
  have hcc : cA = cy 0 := by
    have h9 : s.vm.findClass ("[" ++ (.int : FieldType).toString) = some (cy 0) := (hK.2 0 _ rfl).2
    exact Option.some.inj (hNm.symm.trans h9)
  subst hcc
  subst hz
  refine kk H1 locs ls z1 (hW.push (hA _ hS.1) ?_ o1) ⟨Nat.le_trans hS.1 (by omega), fun x h1 h2 => (o1 x (Nat.lt_of_lt_of_le h1 hS.1)).trans (hS.2.1 x h1 h2), hS.2.2⟩ hl
  exact e1
theorem g_newaJ {N : Nat} {i : Int32} (hC : gC K Γ cc nL own mn d mc ms rt Po) (hi : i = nI N) (hN : N < 20000) (hw : Cond.arrayClass .long ∈ gTs) (hd : decode cc pc = .ok (.newarray .long, 2)) (kk : G K Γ (ω.1 + 1, ω.2.1 + 1, ω.2.2.1 + N, ω.2.2.2 ++ [ω.1]) (va_up σ ω.1 (lA K N (fun _ => 0))) n ll (.ref ω.1 :: r)) (hroom : ω.2.1 + 1 ≤ mc ∧ ω.2.2.1 + N ≤ ms) (hn : n = pc + 2 := by rfl) : G K Γ ω σ pc ll (.int i :: r) := by
  subst hn
  subst hi
  obtain ⟨l, D, cy⟩ := K
  obtain ⟨p, e, R, s, m, args, below, meth, c, A, H0, Q⟩ := Γ
  obtain ⟨z, k9, n9, L⟩ := ω
  obtain ⟨⟨hx, hb, hml, hown, hts⟩, hrt, hlk, ⟨hK, hEv⟩, hA, hR, hmn, hE⟩ := hC
  intro H locs ls hz hW hS hl
  have hcl : (nI N).toNatClampNeg = N := nI_clamp (by omega)
  refine va_newaK hx hb (atype := .long) (hts _ hw) rfl hd rfl (nI_pos (by omega)) hcl (by show N * 8 ≤ _; omega) (Nat.le_trans hroom.1 hR.2.2.1) (Nat.le_trans hroom.2 hR.2.2.2) rfl fun H1 cA e1 z1 o1 hAr hNm => ?_
  have hcc : cA = cy 1 := by
    have h9 : s.vm.findClass ("[" ++ (.long : FieldType).toString) = some (cy 1) := (hK.2 1 _ rfl).2
    exact Option.some.inj (hNm.symm.trans h9)
  subst hcc
  subst hz
  refine kk H1 locs ls z1 (hW.push (hA _ hS.1) ?_ o1) ⟨Nat.le_trans hS.1 (by omega), fun x h1 h2 => (o1 x (Nat.lt_of_lt_of_le h1 hS.1)).trans (hS.2.1 x h1 h2), hS.2.2⟩ hl
  exact e1
theorem g_newaC {N : Nat} {i : Int32} (hC : gC K Γ cc nL own mn d mc ms rt Po) (hi : i = nI N) (hN : N < 20000) (hw : Cond.arrayClass .char ∈ gTs) (hd : decode cc pc = .ok (.newarray .char, 2)) (kk : G K Γ (ω.1 + 1, ω.2.1 + 1, ω.2.2.1 + N, ω.2.2.2 ++ [ω.1]) (va_up σ ω.1 (cA K N (fun _ => 0))) n ll (.ref ω.1 :: r)) (hroom : ω.2.1 + 1 ≤ mc ∧ ω.2.2.1 + N ≤ ms) (hn : n = pc + 2 := by rfl) : G K Γ ω σ pc ll (.int i :: r) := by
  subst hn
  subst hi
  obtain ⟨l, D, cy⟩ := K
  obtain ⟨p, e, R, s, m, args, below, meth, c, A, H0, Q⟩ := Γ
  obtain ⟨z, k9, n9, L⟩ := ω
  obtain ⟨⟨hx, hb, hml, hown, hts⟩, hrt, hlk, ⟨hK, hEv⟩, hA, hR, hmn, hE⟩ := hC
  intro H locs ls hz hW hS hl
  have hcl : (nI N).toNatClampNeg = N := nI_clamp (by omega)
  refine va_newaK hx hb (atype := .char) (hts _ hw) rfl hd rfl (nI_pos (by omega)) hcl (by show N * 2 ≤ _; omega) (Nat.le_trans hroom.1 hR.2.2.1) (Nat.le_trans hroom.2 hR.2.2.2) rfl fun H1 cA e1 z1 o1 hAr hNm => ?_
  have hcc : cA = cy 2 := by
    have h9 : s.vm.findClass ("[" ++ (.char : FieldType).toString) = some (cy 2) := (hK.2 2 _ rfl).2
    exact Option.some.inj (hNm.symm.trans h9)
  subst hcc
  subst hz
  refine kk H1 locs ls z1 (hW.push (hA _ hS.1) ?_ o1) ⟨Nat.le_trans hS.1 (by omega), fun x h1 h2 => (o1 x (Nat.lt_of_lt_of_le h1 hS.1)).trans (hS.2.1 x h1 h2), hS.2.2⟩ hl
  exact e1
theorem g_newaD {N : Nat} {i : Int32} (hC : gC K Γ cc nL own mn d mc ms rt Po) (hi : i = nI N) (hN : N < 20000) (hw : Cond.arrayClass .double ∈ gTs) (hd : decode cc pc = .ok (.newarray .double, 2)) (kk : G K Γ (ω.1 + 1, ω.2.1 + 1, ω.2.2.1 + N, ω.2.2.2 ++ [ω.1]) (va_up σ ω.1 (dA K N (fun _ => 0))) n ll (.ref ω.1 :: r)) (hroom : ω.2.1 + 1 ≤ mc ∧ ω.2.2.1 + N ≤ ms) (hn : n = pc + 2 := by rfl) : G K Γ ω σ pc ll (.int i :: r) := by
  subst hn
  subst hi
  obtain ⟨l, D, cy⟩ := K
  obtain ⟨p, e, R, s, m, args, below, meth, c, A, H0, Q⟩ := Γ
  obtain ⟨z, k9, n9, L⟩ := ω
  obtain ⟨⟨hx, hb, hml, hown, hts⟩, hrt, hlk, ⟨hK, hEv⟩, hA, hR, hmn, hE⟩ := hC
  intro H locs ls hz hW hS hl
  have hcl : (nI N).toNatClampNeg = N := nI_clamp (by omega)
  refine va_newaK hx hb (atype := .double) (hts _ hw) rfl hd rfl (nI_pos (by omega)) hcl (by show N * 8 ≤ _; omega) (Nat.le_trans hroom.1 hR.2.2.1) (Nat.le_trans hroom.2 hR.2.2.2) rfl fun H1 cA e1 z1 o1 hAr hNm => ?_
  have hcc : cA = cy 4 := by
    have h9 : s.vm.findClass ("[" ++ (.double : FieldType).toString) = some (cy 4) := (hK.2 4 _ rfl).2
    exact Option.some.inj (hNm.symm.trans h9)
  subst hcc
  subst hz
  refine kk H1 locs ls z1 (hW.push (hA _ hS.1) ?_ o1) ⟨Nat.le_trans hS.1 (by omega), fun x h1 h2 => (o1 x (Nat.lt_of_lt_of_le h1 hS.1)).trans (hS.2.1 x h1 h2), hS.2.2⟩ hl
  exact e1
theorem g_anew {N : Nat} {i : Int32} {index : Nat} (hC : gC K Γ cc nL own mn d mc ms rt Po) (hi : i = nI N) (hN : N < 20000) (hw : Cond.classLink own index RX6 ∈ gTs) (hd : decode cc pc = .ok (.anewarray index, 3)) (kk : G K Γ (ω.1 + 1, ω.2.1 + 1, ω.2.2.1 + N, ω.2.2.2 ++ [ω.1]) (va_up σ ω.1 (rA K N (fun _ => none))) n ll (.ref ω.1 :: r)) (hroom : ω.2.1 + 1 ≤ mc ∧ ω.2.2.1 + N ≤ ms) (hn : n = pc + 3 := by rfl) : G K Γ ω σ pc ll (.int i :: r) := by
  subst hn
  subst hi
  obtain ⟨l, D, cy⟩ := K
  obtain ⟨p, e, R, s, m, args, below, meth, c, A, H0, Q⟩ := Γ
  obtain ⟨z, k9, n9, L⟩ := ω
  obtain ⟨⟨hx, hb, hml, hown, hts⟩, hrt, hlk, ⟨hK, hEv⟩, hA, hR, hmn, hE⟩ := hC
  intro H locs ls hz hW hS hl
  have hcl : (nI N).toNatClampNeg = N := nI_clamp (by omega)
  refine W.anew hx hb hown (hts _ hw) (Cond.arrayOver_alike (Vm.Alike.refl _) hEv.2.2.2.2.1) rfl hd rfl (nI_pos (by omega)) (by rw [hcl]; omega) (Nat.le_trans hroom.1 hR.2.2.1) (by rw [hcl]; exact Nat.le_trans hroom.2 hR.2.2.2) fun cA kA comp f1 f2 f3 f4 => ?_
  have hcc : cA = cy 3 := by
    obtain ⟨_, _, _, _, _, h9⟩ := (hK.2 3 _ rfl).2
    exact Option.some.inj (f1.symm.trans h9)
  subst hcc
  subst hz
  rw [hcl]
  generalize hH1 : H.push ({ cls := cy 3, slots := Array.replicate N .null, vm := .none } : Cell) = H1
  have z1 : H1.size = H.size + 1 := by rw [← hH1, Array.size_push]
  have e1 : H1[H.size]? = some (arrV (cy 3) N (fun _ => .null)) := by rw [← hH1, Array.getElem?_push_size, ← arrV_new]
  have o1 : ∀ q : Nat, q < H.size → H1[q]? = H[q]? := fun q hq => by rw [← hH1, Array.getElem?_push, if_neg (Nat.ne_of_lt hq)]
  refine kk H1 locs ls z1 (hW.push (hA _ hS.1) ?_ o1) ⟨Nat.le_trans hS.1 (by omega), fun x h1 h2 => (o1 x (Nat.lt_of_lt_of_le h1 hS.1)).trans (hS.2.1 x h1 h2), hS.2.2⟩ hl
  show H1[H.size]? = some (vp_cell _ _)
  rw [vp_cell_q]
  exact e1
end GE
