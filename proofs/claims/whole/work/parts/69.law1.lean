theorem gZq_at {A : Nat → Prop} {L : List Nat} {z : Nat} {s U : State} {H : Heap} {locs : List Loc} (hZ : gZq A s s.heap) (hS : va_S A s.heap H locs) (hsub : ∀ q, gFr L z q → A q) (hvm : s.vm.Alike U.vm) : gZq (gFr L z) U H :=
  ⟨((hZ.1.kept (fun a h1 h2 => hS.2.1 a h1 h2)).narrow hsub).moved hvm, ((hZ.2.kept (fun a h1 h2 => hS.2.1 a h1 h2)).narrow hsub).moved hvm⟩
theorem g_afterX {l : Launch} {D : va_G} {p : Program} {e : Env} {R : Room} {s : State} {m : MethodId} {args : Array Value} {below : List Frame} {meth : Method} {c : Code} {A : Nat → Prop} {H0 : Heap} {Q : State → Prop} {H : Heap} {locs : List Loc} {ls : Array Slot} {z k9 n9 mc2 ms2 pc : Nat} {L : List Nat} {σ : GS} {st r : List Value} {a : Array Value} {Po2 : GP} {Px2 : GPX}
    (hr : vx_Run p l e R s m args below meth c H locs k9 n9 mc2 ms2 (F0 m pc ls st) r (gPost D (gFr L z) Po2 a) (gXC D (gFr L z) Px2) (gFr L z)) (hz : H.size = z) (hW : gW D A L σ H) (hS : va_S A H0 H locs) (hA : ∀ q, H0.size ≤ q → A q)
    (kk : ∀ (rv : Option Value) (z1 : Nat) (L1 : List Nat) (σ1 : GS) (H1 : Heap) (locs1 : List Loc), Po2 rv z1 L1 σ1 → H1.size = z1 → gW D A L1 σ1 H1 → va_S A H0 H1 locs1 → W p l e R s m args below meth c H1 locs1 (k9 + mc2) (n9 + ms2) Q (F0 m (pc + 3) ls (rv.toList ++ r)))
    (kx : ∀ (E : String) (z1 : Nat) (L1 : List Nat) (σ1 : GS) (H1 : Heap) (locs1 : List Loc) (q : Addr) (ce : Cell), Px2 E z1 L1 σ1 → H1.size = z1 → gW D A L1 σ1 H1 → va_S A H0 H1 locs1 → H1[q]? = some ce → ce.vm = .none → s.vm.findClass E = some ce.cls → vx_W p l e R s m args below meth c H1 locs1 (k9 + mc2) (n9 + ms2) Q (F0 m pc ls r) q) : W p l e R s m args below meth c H locs k9 n9 Q (F0 m pc ls st) := by
  have hsub : ∀ q, gFr L z q → A q := fun q h => h.elim (fun h => hW.A h) (fun h => hA q (Nat.le_trans hS.1 (hz ▸ h)))
  intro T hT X
  rcases hr T hT X with ⟨v, st₀, t, T1, Lc, h0, X1, hL, e1, e2, ⟨⟨rv, L1, σ1, hv, hp, hw⟩, hF⟩, st9⟩ | ⟨q, st₀, t, T1, Lc, E, ce, h0, X1, hL, e1, e2, ⟨⟨L1, σ1, hp, hw⟩, hF⟩, hce, hcv, hcl, st9⟩
  · cases hv
    obtain ⟨k1, k2, k3⟩ := vx_keep h0 e1 hS (fun q _ h => hsub q h) hsub hL hF
    obtain ⟨t2, a1, b1⟩ := kk v _ L1 σ1 T1.heap (locs ++ Lc) hp (by rw [e1]) (e1 ▸ hw.weaken (fun a ha => by obtain ⟨q0, hq⟩ := g_pk ha (rfl : σ1 a = σ1 a); exact hsub a (hw.2.2 q0 _ hq))) k3 T1 rfl X1
    exact ⟨t2, st9 t2 a1, b1⟩
  · obtain ⟨k1, k2, k3⟩ := vx_keep h0 e1 hS (fun q _ h => hsub q h) hsub hL hF
    obtain ⟨t2, a1, b1⟩ := kx E _ L1 σ1 T1.heap (locs ++ Lc) q ce hp (by rw [e1]) (e1 ▸ hw.weaken (fun a ha => by obtain ⟨q0, hq⟩ := g_pk ha (rfl : σ1 a = σ1 a); exact hsub a (hw.2.2 q0 _ hq))) k3 (by rw [e1]; exact hce) hcv hcl T1 rfl X1
    exact ⟨t2, st9.trans a1, b1⟩
/-- the row x of the table hh catches E at pc -/
def gCat (own : String) (hh : List (Nat × Nat × Nat × Nat)) (pc : Nat) (E : String) (hp : Nat) : Prop := ∃ (pre : List ExceptionTableEntry) (x : ExceptionTableEntry) (suf : List ExceptionTableEntry) (name : String), tableOf hh = pre ++ x :: suf ∧ (∀ y ∈ pre, covers y pc = false ∨ (y.catchType ≠ 0 ∧ ∃ nm : String, Cond.classLink own y.catchType nm ∈ gTs ∧ (E, nm) ∈ ncL)) ∧ covers x pc = true ∧ x.catchType ≠ 0 ∧ Cond.classLink own x.catchType name ∈ gTs ∧ Cond.castable E name ∈ lw_tbl ∧ x.handlerPc = hp
theorem g_callF {K : GK} {Γ : GX} {cc : ByteArray} {nL d mc ms : Nat} {own mn : String} {rt : Option FieldType} {Po : GP} {ω : GO} {σ : GS} {pc : Nat} {ll : List (Option Value)} {r : List Value} {hh : List (Nat × Nat × Nat × Nat)} (hC : gC K Γ cc nL own mn d mc ms rt Po) (hH : gCH K Γ nL hh) {index b n2 nL2 d2 mc2 ms2 : Nat} {y : MethodName} {b2 : ByteArray} {rt2 : Option FieldType} {As st : List Value} {Po2 : GP} {Px2 : GPX} {ci N : Nat} {C : String} {T : u_T} {fs : List Value} (hV : gVir own index C y b2 nL2 rt2 n2) (hM : gX K y b2 nL2 rt2 d2 mc2 ms2 (.ref b :: As) ω.1 ω.2.2.2 σ Po2 Px2) (hb0 : b ∈ ω.2.2.2) (hσ : σ b = .inr (ci, fs)) (hci : vwCl[ci]? = some (C, T, N)) (hdep : d2 + 1 ≤ d) (hnl : nL2 ≤ 40) (hAs : As.length = n2) (hst : st = As.reverse ++ .ref b :: r) (hcat : (r.map fun v => v.category).sum ≤ 8) (hroom : ω.2.1 + mc2 ≤ mc ∧ ω.2.2.1 + ms2 ≤ ms) (hd : decode cc pc = .ok (.invokevirtual index, 3))
    (kk : ∀ (rv : Option Value) (z1 : Nat) (L1 : List Nat) (σ1 : GS), Po2 rv z1 L1 σ1 → G K Γ (z1, ω.2.1 + mc2, ω.2.2.1 + ms2, L1) σ1 (pc + 3) ll (rv.toList ++ r))
    (kx : ∀ (E : String) (z1 : Nat) (L1 : List Nat) (σ1 : GS), Px2 E z1 L1 σ1 → ∃ hp, gCat own hh pc E hp ∧ ∀ q : Nat, G K Γ (z1, ω.2.1 + mc2, ω.2.2.1 + ms2, L1) σ1 hp ll [.ref q]) (hll : ll.length = nL := by rfl) : G K Γ ω σ pc ll st := by
  obtain ⟨l, D, cy⟩ := K
  obtain ⟨p, e, R, s, m, args, below, meth, c, A, H0, Q⟩ := Γ
  obtain ⟨z, k9, n9, L⟩ := ω
  obtain ⟨⟨hx, hb, hml, hown, hts⟩, hrt, hlk, ⟨hK, hEv⟩, hA, hR, hmn, hE⟩ := hC
  obtain ⟨hstt, htab, hmL, hH0, hZ⟩ := hH
  intro H locs ls hz hW hS hl
  subst hH0
  have hsub : ∀ q, gFr L z q → A q := fun q h => h.elim (fun h => hW.A h) (fun h => hA q (Nat.le_trans hS.1 (hz ▸ h)))
  have hR2 : (gRm d2 mc2 ms2).frames + 1 ≤ R.frames ∧ 8 + (nL2 + 11) + (gRm d2 mc2 ms2).locals ≤ R.locals := ⟨Nat.le_trans hdep hR.1, by have := hR.2.1; show 8 + (nL2 + 11) + 64 * d2 ≤ _; omega⟩
  have hf9 : k9 + mc2 ≤ R.cells ∧ n9 + ms2 ≤ R.slots := ⟨Nat.le_trans hroom.1 hR.2.2.1, Nat.le_trans hroom.2 hR.2.2.2⟩
  obtain ⟨v1, v2, v3, v4, v5, v6⟩ := hV
  obtain ⟨q0, hq⟩ := g_pk hb0 hσ
  refine g_afterX (vx_runV (C := C) (As := As) ⟨hx, hb, hml, hown, hts⟩ (hM hstt) ⟨callB_of n2 hts (gGood v5 rfl) rfl rfl rfl (hts _ v4) (hts _ v1) v6 hR2, hts _ v2, hts _ v3⟩ ⟨fun a U g mk q => ⟨q.1, q.2.1, q.2.2.1, va_K.moved (u := U) (U := U.calling g mk a) (Vm.Alike.refl U.vm) q.2.2.2.1, gEv.same (u := U) (U := U.calling g mk a) rfl q.2.2.2.2.1, ⟨q.2.2.2.2.2.1.moved (u := U) (U := U.calling g mk a) (Vm.Alike.refl U.vm), q.2.2.2.2.2.2.moved (u := U) (U := U.calling g mk a) (Vm.Alike.refl U.vm)⟩⟩, va_recv hK hW.1 hci hq, fun U hU hWm => ⟨rfl, by rw [hU]; exact hz, by rw [hU]; exact hW.weaken (fun _ _ => trivial), va_K.moved hWm.alike hK, hEv.warm hWm, by rw [hU]; exact gZq_at hZ hS hsub hWm.alike⟩⟩ rfl hAs (hl.1.trans hll) hst (lv_room hcat) hd hf9) hz hW hS hA (fun rv z1 L1 σ1 H1 locs1 hp hz1 hW1 hS1 => kk rv z1 L1 σ1 hp H1 locs1 ls hz1 hW1 hS1 hl) (fun E z1 L1 σ1 H1 locs1 q ce hp hz1 hW1 hS1 hce hcv hcl => ?_)
  obtain ⟨hpc, ⟨pre, x, suf, name, t1, t2, t3, t4, t5, t6, t7⟩, hg⟩ := kx E z1 L1 σ1 hp
  subst t7
  exact vx_catch hown pre x suf (htab.trans t1) (fun y hy => (t2 y hy).imp id (fun ⟨w1, nm, w2, w3⟩ => ⟨w1, nm, hts _ w2, hEv.2.2.2.2.2 _ w3⟩)) t3 t4 (hts _ t5) ((hEv.2.2.1 _ _ t6).use rfl) hce hcv hcl (hg q H1 locs1 ls hz1 hW1 hS1 hl)
