/-- what a walk needs to call a method that asks for the statics of the throwing rows -/
def gCZ (K : GK) (Γ : GX) : Prop :=
  match K, Γ with
  | (l, _, _), (_, _, _, s, _, _, _, _, _, A, H0, _) => l.stackTraces = false ∧ H0 = s.heap ∧ gZq A s s.heap
def gStaW (own : String) (index : Nat) (y : MethodName) (b : ByteArray) (nL : Nat) (rt : Option FieldType) (hh : List (Nat × Nat × Nat × Nat)) (n : Nat) : Prop := Cond.methodLink own index y ∈ gTs ∧ Cond.static y ∈ gTs ∧ Cond.initialized y.cls ∈ gTs ∧ Cond.codeWith y b nL rt hh ∈ gTs ∧ gYd y n
theorem g_callW {K : GK} {Γ : GX} {cc : ByteArray} {nL d mc ms : Nat} {own mn : String} {rt : Option FieldType} {Po : GP} {ω : GO} {σ : GS} {pc : Nat} {ll : List (Option Value)} {r : List Value} (hC : gC K Γ cc nL own mn d mc ms rt Po) (hZ9 : gCZ K Γ) {index n2 nL2 d2 mc2 ms2 : Nat} {y : MethodName} {b2 : ByteArray} {rt2 : Option FieldType} {hh : List (Nat × Nat × Nat × Nat)} {As st : List Value} {Po2 : GP} (hV : gStaW own index y b2 nL2 rt2 hh n2) (hM : gHM K y b2 nL2 rt2 hh d2 mc2 ms2 As ω.1 ω.2.2.2 σ Po2) (hdep : d2 + 1 ≤ d) (hnl : nL2 ≤ 40) (hAs : As.length = n2) (hst : st = As.reverse ++ r) (hcat : (r.map fun v => v.category).sum ≤ 8) (hroom : ω.2.1 + mc2 ≤ mc ∧ ω.2.2.1 + ms2 ≤ ms) (hd : decode cc pc = .ok (.invokestatic index, 3))
    (kk : ∀ (rv : Option Value) (z1 : Nat) (L1 : List Nat) (σ1 : GS), Po2 rv z1 L1 σ1 → G K Γ (z1, ω.2.1 + mc2, ω.2.2.1 + ms2, L1) σ1 (pc + 3) ll (rv.toList ++ r)) (hll : ll.length = nL := by rfl) : G K Γ ω σ pc ll st := by
  obtain ⟨l, D, cy⟩ := K
  obtain ⟨p, e, R, s, m, args, below, meth, c, A, H0, Q⟩ := Γ
  obtain ⟨z, k9, n9, L⟩ := ω
  obtain ⟨⟨hx, hb, hml, hown, hts⟩, hrt, hlk, ⟨hK, hEv⟩, hA, hR, hmn, hE⟩ := hC
  obtain ⟨hstt, hH0, hZ⟩ := hZ9
  intro H locs ls hz hW hS hl
  subst hH0
  have hsub : ∀ q, gFr L z q → A q := fun q h => h.elim (fun h => hW.A h) (fun h => hA q (Nat.le_trans hS.1 (hz ▸ h)))
  have hR2 : (gRm d2 mc2 ms2).frames + 1 ≤ R.frames ∧ 8 + (nL2 + 11) + (gRm d2 mc2 ms2).locals ≤ R.locals := ⟨Nat.le_trans hdep hR.1, by have := hR.2.1; show 8 + (nL2 + 11) + 64 * d2 ≤ _; omega⟩
  have hf9 : k9 + mc2 ≤ R.cells ∧ n9 + ms2 ≤ R.slots := ⟨Nat.le_trans hroom.1 hR.2.2.1, Nat.le_trans hroom.2 hR.2.2.2⟩
  obtain ⟨v1, v2, v4, v5, v6⟩ := hV
  refine g_afterX (Px2 := fun _ _ _ _ => False) (vx_runSX (hh := hh) (As := As) ⟨hx, hb, hml, hown, hts⟩ (hM hstt) ⟨⟨rfl, rfl, hR2.1, hR2.2, pay_in hts (gGood v5 rfl), List.mem_cons_self⟩, hts _ v5, hts _ v4, ⟨v6.1, v6.2.1⟩, fun sig h => by have h2 := v6.2.2; rw [h] at h2; exact (Option.some.inj h2).symm, hts _ v1, hts _ v2⟩ ⟨fun a U g mk q => ⟨q.1, q.2.1, q.2.2.1, va_K.moved (u := U) (U := U.calling g mk a) (Vm.Alike.refl U.vm) q.2.2.2.1, gEv.same (u := U) (U := U.calling g mk a) rfl q.2.2.2.2.1, ⟨q.2.2.2.2.2.1.moved (u := U) (U := U.calling g mk a) (Vm.Alike.refl U.vm), q.2.2.2.2.2.2.moved (u := U) (U := U.calling g mk a) (Vm.Alike.refl U.vm)⟩⟩, fun U hU hWm => ⟨rfl, by rw [hU]; exact hz, by rw [hU]; exact hW.weaken (fun _ _ => trivial), va_K.moved hWm.alike hK, hEv.warm hWm, by rw [hU]; exact gZq_at hZ hS hsub hWm.alike⟩⟩ rfl hAs (hl.1.trans hll) hst (lv_room hcat) hd hf9) hz hW hS hA (fun rv z1 L1 σ1 H1 locs1 hp hz1 hW1 hS1 => kk rv z1 L1 σ1 hp H1 locs1 ls hz1 hW1 hS1 hl) (fun E z1 L1 σ1 H1 locs1 q ce hp _ _ _ _ _ _ => hp.elim)
