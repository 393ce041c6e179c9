/-! ===== my layer: a walk's state as pure data ===== -/
/-- what the tables say that isn't among the good words: links to nest mates, string constants -/
def nestL : List (String × Nat × MethodName × String) := [(RX2, 32, yX4_init, RX7), (RX2, 37, yX6_init, RX7), (RX6, 11, yX4_init, RX7), (RX7, 25, yX5_init, RX7), (RX7, 32, yX3_init, RX7), (RX7, 39, yX1_init, RX7), (RX1, 11, yX6_init, RX7), (RX7, 254, yX1_leastValue, RX7)]
def strL : List (String × Nat × String) := [(RX7, 46, "no such board"), (RX7, 51, "no such handicap"), (RX7, 67, "no such rule"), (RX7, 79, "no such player"), (RX7, 82, "no such bonus"), (RX7, 94, "no such cell"), (RX7, 102, "the game is over"), (RX7, 111, "the cell is not empty"), (RX7, 121, "there is no round"), (RX7, 150, "no such number"), (RX7, 159, "no such count"), (RX7, 177, "no such player or cell"), (RX7, 189, "the cell is its own or a block"), (RX7, 192, "no such state"), (RX7, 198, "there is no stone"), (RX7, 204, "more stones would be needed"), (RX7, 213, "no such round"), (RX7, 237, "no such part"), (RX7, 245, "no such depth"), (RX7, 252, "the choice cannot be made or looked into"), (RX7, 258, "the choices cannot be looked into"), (RX7, 265, "no such level"), (RX7, 278, "the buffer is full"), (RX7, 291, "the round cannot be played"), (RX7, 300, "no such character"), (RX7, 306, "nothing was saved")]
def ncL : List (String × String) := [("java/lang/IllegalArgumentException", "java/lang/IndexOutOfBoundsException"), ("java/lang/IllegalStateException", "java/lang/IndexOutOfBoundsException"), ("java/lang/UnsupportedOperationException", "java/lang/IndexOutOfBoundsException"), ("java/lang/UnsupportedOperationException", "java/lang/IllegalStateException"), ("java/util/NoSuchElementException", "java/lang/IndexOutOfBoundsException"), ("java/lang/IllegalStateException", "java/lang/IllegalArgumentException"), ("java/lang/IllegalArgumentException", "java/util/NoSuchElementException")]
def gEw (U : State) : Prop := (∀ C T, Cond.castable C T ∈ lw_tbl → va_Nw (.castable C T) U) ∧ (∀ x, Cond.declares x ∈ lw_tbl → va_Nw (.declares x) U) ∧ (Cond.arrayOver (.object RX6)).before #[] U = true ∧ ∀ q ∈ ncL, va_Nc q.1 q.2 U
theorem gEw.same {u U : State} (hv : u.vm = U.vm) (h : gEw u) : gEw U := ⟨fun C T q => va_Nw.same rfl hv (h.1 C T q), fun x q => va_Nw.same rfl hv (h.2.1 x q), Cond.arrayOver_alike (hv ▸ Vm.Alike.refl u.vm) h.2.2.1, fun q hq => va_Nc.moved (hv ▸ Vm.Alike.refl u.vm) (h.2.2.2 q hq)⟩
theorem gEw.warm {s U : State} (hW : s.WarmedH U.vm) (h : gEw s) : gEw U := ⟨fun C T q => va_Nw.warmC hW (h.1 C T q), fun x q => va_Nw.warmD hW (h.2.1 x q), Cond.arrayOver_alike hW.alike h.2.2.1, fun q hq => va_Nc.moved hW.alike (h.2.2.2 q hq)⟩
def gEv (U : State) : Prop := (∀ q ∈ nestL, va_Nw (.methodLinkNest q.1 q.2.1 q.2.2.1 q.2.2.2) U) ∧ (∀ q ∈ strL, ∃ a : Nat, vk_R q.1 q.2.1 q.2.2 a U) ∧ gEw U
theorem gEv.same {u U : State} (hv : u.vm = U.vm) (h : gEv u) : gEv U := ⟨fun q hq => va_Nw.same rfl hv (h.1 q hq), fun q hq => (h.2.1 q hq).imp fun a ha => vk_R.same hv.symm ha, h.2.2.same hv⟩
theorem gEv.warm {s U : State} (hW : s.WarmedH U.vm) (h : gEv s) : gEv U := ⟨fun q hq => va_Nw.warmM hW (h.1 q hq), fun q hq => (h.2.1 q hq).imp fun a ha => vk_R.warm hW ha, h.2.2.warm hW⟩
def gTy (cy : Nat → ClassId) : List (ClassId × FieldType) := [(cy 0, .int), (cy 1, .long), (cy 2, .char), (cy 3, .object RX6), (cy 4, .double)]
/-- locals by their places -/
def g_get : List (Option Value) → Nat → Option Value
  | [], _ => none
  | o :: _, 0 => o
  | _ :: t, i + 1 => g_get t i
def g_upd : List (Option Value) → Nat → Option Value → List (Option Value)
  | [], _, _ => []
  | _ :: t, 0, v => v :: t
  | o :: t, i + 1, v => o :: g_upd t i v
def g_clr (ll : List (Option Value)) : Nat → List (Option Value)
  | 0 => ll
  | i + 1 => match g_get ll i with
    | some v => if v.category = 2 then g_upd ll i none else ll
    | none => ll
def g_st1 (ll : List (Option Value)) (i : Nat) (v : Value) : List (Option Value) := g_upd (g_clr ll i) i (some v)
def g_st2 (ll : List (Option Value)) (i : Nat) (v : Value) : List (Option Value) := g_upd (g_upd (g_clr ll i) i (some v)) (i + 1) none
theorem g_upd_len : ∀ (l : List (Option Value)) (i : Nat) (v : Option Value), (g_upd l i v).length = l.length
  | [], _, _ => rfl
  | _ :: _, 0, _ => rfl
  | _ :: t, i + 1, v => by simp [g_upd, g_upd_len t i v]
theorem g_clr_len (l : List (Option Value)) (i : Nat) : (g_clr l i).length = l.length := by
  cases i with
  | zero => rfl
  | succ i =>
    simp only [g_clr]
    split
    · split
      · exact g_upd_len _ _ _
      · rfl
    · rfl
theorem g_get_upd : ∀ (l : List (Option Value)) (i : Nat) (v : Option Value) (j : Nat) (w : Value), g_get (g_upd l i v) j = some w → (j = i ∧ v = some w) ∨ (j ≠ i ∧ g_get l j = some w)
  | [], _, _, _, _, h => by simp [g_upd, g_get] at h
  | _ :: _, 0, v, 0, w, h => Or.inl ⟨rfl, h⟩
  | _ :: t, 0, v, j + 1, w, h => Or.inr ⟨Nat.succ_ne_zero j, h⟩
  | o :: t, i + 1, v, 0, w, h => Or.inr ⟨(Nat.succ_ne_zero i).symm, h⟩
  | o :: t, i + 1, v, j + 1, w, h => by
    rcases g_get_upd t i v j w h with ⟨h1, h2⟩ | ⟨h1, h2⟩
    · exact Or.inl ⟨by omega, h2⟩
    · exact Or.inr ⟨by omega, h2⟩
theorem g_get_clr {l : List (Option Value)} {i j : Nat} {w : Value} (h : g_get (g_clr l i) j = some w) : g_get l j = some w ∧ ¬ (j + 1 = i ∧ w.category = 2) := by
  cases i with
  | zero => exact ⟨h, by omega⟩
  | succ i =>
    simp only [g_clr] at h
    split at h
    next v hv =>
      split at h
      next hc =>
        rcases g_get_upd _ _ _ _ _ h with ⟨h1, h2⟩ | ⟨h1, h2⟩
        · cases h2
        · exact ⟨h2, by omega⟩
      next hc =>
        refine ⟨h, fun ⟨e1, e2⟩ => ?_⟩
        have : j = i := by omega
        subst this
        rw [hv] at h
        cases h
        exact hc e2
    next hv =>
      refine ⟨h, fun ⟨e1, e2⟩ => ?_⟩
      have : j = i := by omega
      subst this
      rw [hv] at h
      cases h
def g_has (ls : Array Slot) (ll : List (Option Value)) : Prop := ls.size = ll.length ∧ lv_wf ls ∧ ∀ (i : Nat) (v : Value), g_get ll i = some v → ls[i]? = some (.val v)
def g_al : Nat → List (Option Value) → List (Nat × Value)
  | _, [] => []
  | k, none :: t => g_al (k + 1) t
  | k, some v :: t => (k, v) :: g_al (k + 1) t
theorem g_al_mem : ∀ (l : List (Option Value)) (k i : Nat) (v : Value), (i, v) ∈ g_al k l ↔ ∃ j, i = k + j ∧ g_get l j = some v
  | [], k, i, v => by simp [g_al, g_get]
  | none :: t, k, i, v => by
    rw [g_al, g_al_mem t (k + 1) i v]
    constructor
    · rintro ⟨j, h1, h2⟩
      exact ⟨j + 1, by omega, h2⟩
    · rintro ⟨j, h1, h2⟩
      cases j with
      | zero => cases h2
      | succ j => exact ⟨j, by omega, h2⟩
  | some u :: t, k, i, v => by
    rw [g_al, List.mem_cons, g_al_mem t (k + 1) i v]
    constructor
    · rintro (h | ⟨j, h1, h2⟩)
      · cases h
        exact ⟨0, rfl, rfl⟩
      · exact ⟨j + 1, by omega, h2⟩
    · rintro ⟨j, h1, h2⟩
      cases j with
      | zero => cases h2; exact Or.inl (by rw [h1]; rfl)
      | succ j => exact Or.inr ⟨j, by omega, h2⟩
theorem g_has.lv {ls : Array Slot} {ll : List (Option Value)} (h : g_has ls ll) : lv_has ls ll.length (g_al 0 ll) := by
  refine ⟨h.1, h.2.1, fun q hq => ?_⟩
  obtain ⟨j, h1, h2⟩ := (g_al_mem ll 0 q.1 q.2).mp hq
  rw [h1, Nat.zero_add]
  exact h.2.2 j q.2 h2
theorem g_has.st1 {ls : Array Slot} {ll : List (Option Value)} {i : Nat} {v : Value} (h : lv_has ls ll.length ((i, v) :: (g_al 0 ll).filter (fun q => !(q.1 == i) && !(q.1 + 1 == i && q.2.category == 2)))) : g_has ls (g_st1 ll i v) := by
  refine ⟨by rw [h.1, g_st1, g_upd_len, g_clr_len], h.2.1, fun j w hj => ?_⟩
  rcases g_get_upd _ _ _ _ _ hj with ⟨h1, h2⟩ | ⟨h1, h2⟩
  · cases h2
    exact h.2.2 (j, _) (by rw [h1]; exact List.mem_cons_self)
  · obtain ⟨h3, h4⟩ := g_get_clr h2
    refine h.2.2 (j, w) (List.mem_cons_of_mem _ (List.mem_filter.mpr ⟨(g_al_mem ll 0 j w).mpr ⟨j, by omega, h3⟩, ?_⟩))
    simp only [Bool.and_eq_true, Bool.not_eq_true', beq_eq_false_iff_ne, ne_eq, Bool.and_eq_false_iff]
    refine ⟨h1, ?_⟩
    by_cases h5 : j + 1 = i
    · exact Or.inr (fun e => h4 ⟨h5, e⟩)
    · exact Or.inl h5
theorem g_has.st2 {ls : Array Slot} {ll : List (Option Value)} {i : Nat} {v : Value} (h : lv_has ls ll.length ((i, v) :: (g_al 0 ll).filter (fun q => !(q.1 == i) && (!(q.1 == i + 1) && !(q.1 + 1 == i && q.2.category == 2))))) : g_has ls (g_st2 ll i v) := by
  refine ⟨by rw [h.1, g_st2, g_upd_len, g_upd_len, g_clr_len], h.2.1, fun j w hj => ?_⟩
  rcases g_get_upd _ _ _ _ _ hj with ⟨h1, h2⟩ | ⟨h1, h2⟩
  · cases h2
  · rcases g_get_upd _ _ _ _ _ h2 with ⟨h1, h2⟩ | ⟨h1', h2⟩
    · cases h2
      exact h.2.2 (j, _) (by rw [h1]; exact List.mem_cons_self)
    · obtain ⟨h3, h4⟩ := g_get_clr h2
      refine h.2.2 (j, w) (List.mem_cons_of_mem _ (List.mem_filter.mpr ⟨(g_al_mem ll 0 j w).mpr ⟨j, by omega, h3⟩, ?_⟩))
      simp only [Bool.and_eq_true, Bool.not_eq_true', beq_eq_false_iff_ne, ne_eq, Bool.and_eq_false_iff]
      refine ⟨h1', h1, ?_⟩
      by_cases h5 : j + 1 = i
      · exact Or.inr (fun e => h4 ⟨h5, e⟩)
      · exact Or.inl h5
/-- fewer known locals -/
def g_le : List (Option Value) → List (Option Value) → Prop
  | [], [] => True
  | none :: a, _ :: b => g_le a b
  | some v :: a, some w :: b => v = w ∧ g_le a b
  | _, _ => False
theorem g_le_get : ∀ {a b : List (Option Value)}, g_le a b → a.length = b.length ∧ ∀ (i : Nat) (v : Value), g_get a i = some v → g_get b i = some v
  | [], [], _ => ⟨rfl, fun _ _ h => h⟩
  | [], _ :: _, h => h.elim
  | none :: a, [], h => h.elim
  | some _ :: a, [], h => h.elim
  | none :: a, o :: b, h => by
    obtain ⟨h1, h2⟩ := g_le_get (a := a) (b := b) h
    refine ⟨by simp [h1], fun i v hv => ?_⟩
    cases i with
    | zero => cases hv
    | succ i => exact h2 i v hv
  | some x :: a, none :: b, h => h.elim
  | some x :: a, some y :: b, h => by
    obtain ⟨h0, h⟩ := h
    subst h0
    obtain ⟨h1, h2⟩ := g_le_get (a := a) (b := b) h
    refine ⟨by simp [h1], fun i v hv => ?_⟩
    cases i with
    | zero => exact hv
    | succ i => exact h2 i v hv
theorem g_has.le {ls : Array Slot} {a b : List (Option Value)} (h : g_has ls b) (hl : g_le a b) : g_has ls a := ⟨h.1.trans (g_le_get hl).1.symm, h.2.1, fun i v hv => h.2.2 i v ((g_le_get hl).2 i v hv)⟩
/-- the locals at a method's entry -/
def g_en : Nat → List (Nat × Value) → List (Option Value) → Prop
  | _, _, [] => True
  | i, l, none :: t => g_en (i + 1) l t
  | i, l, some v :: t => (i, v) ∈ l ∧ g_en (i + 1) l t
theorem g_en_get : ∀ (ll : List (Option Value)) (i : Nat) (l : List (Nat × Value)), g_en i l ll → ∀ (j : Nat) (v : Value), g_get ll j = some v → (i + j, v) ∈ l
  | [], _, _, _, _, _, h => by cases h
  | none :: t, i, l, h, j, v, hv => by
    cases j with
    | zero => cases hv
    | succ j =>
      have := g_en_get t (i + 1) l h j v hv
      rw [show i + 1 + j = i + (j + 1) by omega] at this
      exact this
  | some x :: t, i, l, h, j, v, hv => by
    cases j with
    | zero => cases hv; exact h.1
    | succ j =>
      have := g_en_get t (i + 1) l h.2 j v hv
      rw [show i + 1 + j = i + (j + 1) by omega] at this
      exact this
/-- what is the same in all walks: the launch, the classes' numbers and slots, the array classes -/
abbrev GK : Type := Launch × va_G × (Nat → ClassId)
abbrev GX : Type := Program × Env × Room × State × MethodId × Array Value × List Frame × Method × Code × (Nat → Prop) × Heap × (State → Prop)
/-- the heap's size, the cells and slots made so far, the addresses of the world -/
abbrev GO : Type := Nat × Nat × Nat × List Nat
abbrev GS : Type := Nat → va_E
abbrev GP : Type := Option Value → Nat → List Nat → GS → Prop
def gW (D : va_G) (A : Nat → Prop) (L : List Nat) (σ : GS) (H : Heap) : Prop := va_P D vwCl (va_pl L σ) H ∧ va_D A (va_pl L σ)
def G (K : GK) (Γ : GX) (ω : GO) (σ : GS) (pc : Nat) (ll : List (Option Value)) (st : List Value) : Prop :=
  match K, Γ, ω with
  | (l, D, _), (p, e, R, s, m, args, below, meth, c, A, H0, Q), (z, k, n, L) => ∀ (H : Heap) (locs : List Loc) (ls : Array Slot), H.size = z → gW D A L σ H → va_S A H0 H locs → g_has ls ll → W p l e R s m args below meth c H locs k n Q (F0 m pc ls st)
def gC (K : GK) (Γ : GX) (cc : ByteArray) (nL : Nat) (own mn : String) (d mc ms : Nat) (rt : Option FieldType) (Po : GP) : Prop :=
  match K, Γ with
  | (_, D, cy), (p, _, R, s, m, args, below, meth, c, A, H0, Q) => CallFix p m c cc nL s args gTs own ∧ meth.sig.returnType = rt ∧ meth.locks = false ∧ (va_K D vwCl (gTy cy) s ∧ gEv s) ∧ (∀ q, H0.size ≤ q → A q) ∧ (d ≤ R.frames ∧ 64 * d ≤ R.locals ∧ mc ≤ R.cells ∧ ms ≤ R.slots) ∧ meth.name = mn ∧
    (∃ (Qc : Array Value → State → Outcome → State → Prop) (free : Nat → Prop), (∀ t, MQ below Qc args s mc ms free t → Q t) ∧ (∀ q, A q → free q) ∧ ∀ (r : Option Value) (H : Heap) (locs : List Loc) (L : List Nat) (σ : GS) (t : State), gW D A L σ H → va_S A H0 H locs → Po r H.size L σ → t.heap = H → Qc args s (.returned r) t)

section GR
variable {K : GK} {Γ : GX} {cc : ByteArray} {nL d mc ms : Nat} {own mn : String} {rt : Option FieldType} {Po : GP} {ω : GO} {σ : GS} {pc n : Nat} {ll ll1 : List (Option Value)} {r : List Value}
theorem g_iconst (hC : gC K Γ cc nL own mn d mc ms rt Po) {i : Int} {v : Int32} (hv : Int32.ofInt i = v) (hd : decode cc pc = .ok (.iconst i, 1)) (k : G K Γ ω σ n ll (.int v :: r)) (hn : n = pc + 1 := by rfl) : G K Γ ω σ pc ll (r) := by
  subst hn
  obtain ⟨l, D, cy⟩ := K
  obtain ⟨p, e, R, s, m, args, below, meth, c, A, H0, Q⟩ := Γ
  obtain ⟨z, k9, n9, L⟩ := ω
  obtain ⟨⟨hx, hb, hml, hown, hts⟩, hrt, hlk, ⟨hK, hEv⟩, hA, hR, hmn, hE⟩ := hC
  intro H locs ls hz hW hS hl
  exact lv_iconst hx hb hd hv (k H locs ls hz hW hS hl)
theorem g_bipush (hC : gC K Γ cc nL own mn d mc ms rt Po) {i : Int} {v : Int32} (hv : (Int8.ofInt i).toInt32 = v) (hd : decode cc pc = .ok (.bipush i, 2)) (k : G K Γ ω σ n ll (.int v :: r)) (hn : n = pc + 2 := by rfl) : G K Γ ω σ pc ll (r) := by
  subst hn
  obtain ⟨l, D, cy⟩ := K
  obtain ⟨p, e, R, s, m, args, below, meth, c, A, H0, Q⟩ := Γ
  obtain ⟨z, k9, n9, L⟩ := ω
  obtain ⟨⟨hx, hb, hml, hown, hts⟩, hrt, hlk, ⟨hK, hEv⟩, hA, hR, hmn, hE⟩ := hC
  intro H locs ls hz hW hS hl
  exact lv_bipush hx hb hd hv (k H locs ls hz hW hS hl)
theorem g_sipush (hC : gC K Γ cc nL own mn d mc ms rt Po) {i : Int} {v : Int32} (hv : (Int16.ofInt i).toInt32 = v) (hd : decode cc pc = .ok (.sipush i, 3)) (k : G K Γ ω σ n ll (.int v :: r)) (hn : n = pc + 3 := by rfl) : G K Γ ω σ pc ll (r) := by
  subst hn
  obtain ⟨l, D, cy⟩ := K
  obtain ⟨p, e, R, s, m, args, below, meth, c, A, H0, Q⟩ := Γ
  obtain ⟨z, k9, n9, L⟩ := ω
  obtain ⟨⟨hx, hb, hml, hown, hts⟩, hrt, hlk, ⟨hK, hEv⟩, hA, hR, hmn, hE⟩ := hC
  intro H locs ls hz hW hS hl
  exact lv_sipush hx hb hd hv (k H locs ls hz hW hS hl)
theorem g_lconst (hC : gC K Γ cc nL own mn d mc ms rt Po) {i : Fin 2} {v : Int64} (hv : Int64.ofNat (i : Nat) = v) (hd : decode cc pc = .ok (.lconst i, 1)) (k : G K Γ ω σ n ll (.long v :: r)) (hn : n = pc + 1 := by rfl) : G K Γ ω σ pc ll (r) := by
  subst hn
  obtain ⟨l, D, cy⟩ := K
  obtain ⟨p, e, R, s, m, args, below, meth, c, A, H0, Q⟩ := Γ
  obtain ⟨z, k9, n9, L⟩ := ω
  obtain ⟨⟨hx, hb, hml, hown, hts⟩, hrt, hlk, ⟨hK, hEv⟩, hA, hR, hmn, hE⟩ := hC
  intro H locs ls hz hW hS hl
  exact lv_lconst hx hb hd hv (k H locs ls hz hW hS hl)
theorem g_ldc (hC : gC K Γ cc nL own mn d mc ms rt Po) {i : Nat} {v : Int32} (hw : Cond.constant own i v ∈ gTs) (hd : decode cc pc = .ok (.ldc i, 2)) (k : G K Γ ω σ n ll (.int v :: r)) (hn : n = pc + 2 := by rfl) : G K Γ ω σ pc ll (r) := by
  subst hn
  obtain ⟨l, D, cy⟩ := K
  obtain ⟨p, e, R, s, m, args, below, meth, c, A, H0, Q⟩ := Γ
  obtain ⟨z, k9, n9, L⟩ := ω
  obtain ⟨⟨hx, hb, hml, hown, hts⟩, hrt, hlk, ⟨hK, hEv⟩, hA, hR, hmn, hE⟩ := hC
  intro H locs ls hz hW hS hl
  exact lv_ldc hx hb hown (hts _ hw) hd (k H locs ls hz hW hS hl)
theorem g_ldcw (hC : gC K Γ cc nL own mn d mc ms rt Po) {i : Nat} {v : Int32} (hw : Cond.constant own i v ∈ gTs) (hd : decode cc pc = .ok (.ldc_w i, 3)) (k : G K Γ ω σ n ll (.int v :: r)) (hn : n = pc + 3 := by rfl) : G K Γ ω σ pc ll (r) := by
  subst hn
  obtain ⟨l, D, cy⟩ := K
  obtain ⟨p, e, R, s, m, args, below, meth, c, A, H0, Q⟩ := Γ
  obtain ⟨z, k9, n9, L⟩ := ω
  obtain ⟨⟨hx, hb, hml, hown, hts⟩, hrt, hlk, ⟨hK, hEv⟩, hA, hR, hmn, hE⟩ := hC
  intro H locs ls hz hW hS hl
  exact lv_ldcw hx hb hown (hts _ hw) hd (k H locs ls hz hW hS hl)
theorem g_ldc2 (hC : gC K Γ cc nL own mn d mc ms rt Po) {i : Nat} {v : Int64} (hw : Cond.constantLong own i v ∈ gTs) (hd : decode cc pc = .ok (.ldc2_w i, 3)) (k : G K Γ ω σ n ll (.long v :: r)) (hn : n = pc + 3 := by rfl) : G K Γ ω σ pc ll (r) := by
  subst hn
  obtain ⟨l, D, cy⟩ := K
  obtain ⟨p, e, R, s, m, args, below, meth, c, A, H0, Q⟩ := Γ
  obtain ⟨z, k9, n9, L⟩ := ω
  obtain ⟨⟨hx, hb, hml, hown, hts⟩, hrt, hlk, ⟨hK, hEv⟩, hA, hR, hmn, hE⟩ := hC
  intro H locs ls hz hW hS hl
  exact lv_ldc2 hx hb hown (hts _ hw) hd (k H locs ls hz hW hS hl)
theorem g_iload_n (hC : gC K Γ cc nL own mn d mc ms rt Po) {i : Fin 4} {x : Int32} (hg : g_get ll i = some (.int x)) (hd : decode cc pc = .ok (.iload_n i, 1)) (k : G K Γ ω σ n ll (.int x :: r)) (hn : n = pc + 1 := by rfl) : G K Γ ω σ pc ll (r) := by
  subst hn
  obtain ⟨l, D, cy⟩ := K
  obtain ⟨p, e, R, s, m, args, below, meth, c, A, H0, Q⟩ := Γ
  obtain ⟨z, k9, n9, L⟩ := ω
  obtain ⟨⟨hx, hb, hml, hown, hts⟩, hrt, hlk, ⟨hK, hEv⟩, hA, hR, hmn, hE⟩ := hC
  intro H locs ls hz hW hS hl
  exact lv_iload_n hx hb hd rfl (hl.2.2 _ _ hg) (k H locs ls hz hW hS hl)
theorem g_iload (hC : gC K Γ cc nL own mn d mc ms rt Po) {i : Nat} {x : Int32} (hg : g_get ll i = some (.int x)) (hd : decode cc pc = .ok (.iload i, 2)) (k : G K Γ ω σ n ll (.int x :: r)) (hn : n = pc + 2 := by rfl) : G K Γ ω σ pc ll (r) := by
  subst hn
  obtain ⟨l, D, cy⟩ := K
  obtain ⟨p, e, R, s, m, args, below, meth, c, A, H0, Q⟩ := Γ
  obtain ⟨z, k9, n9, L⟩ := ω
  obtain ⟨⟨hx, hb, hml, hown, hts⟩, hrt, hlk, ⟨hK, hEv⟩, hA, hR, hmn, hE⟩ := hC
  intro H locs ls hz hW hS hl
  exact lv_iload hx hb hd (hl.2.2 _ _ hg) (k H locs ls hz hW hS hl)
theorem g_lload_n (hC : gC K Γ cc nL own mn d mc ms rt Po) {i : Fin 4} {x : Int64} (hg : g_get ll i = some (.long x)) (hd : decode cc pc = .ok (.lload_n i, 1)) (k : G K Γ ω σ n ll (.long x :: r)) (hn : n = pc + 1 := by rfl) : G K Γ ω σ pc ll (r) := by
  subst hn
  obtain ⟨l, D, cy⟩ := K
  obtain ⟨p, e, R, s, m, args, below, meth, c, A, H0, Q⟩ := Γ
  obtain ⟨z, k9, n9, L⟩ := ω
  obtain ⟨⟨hx, hb, hml, hown, hts⟩, hrt, hlk, ⟨hK, hEv⟩, hA, hR, hmn, hE⟩ := hC
  intro H locs ls hz hW hS hl
  exact lv_lload_n hx hb hd rfl (hl.2.2 _ _ hg) (k H locs ls hz hW hS hl)
theorem g_lload (hC : gC K Γ cc nL own mn d mc ms rt Po) {i : Nat} {x : Int64} (hg : g_get ll i = some (.long x)) (hd : decode cc pc = .ok (.lload i, 2)) (k : G K Γ ω σ n ll (.long x :: r)) (hn : n = pc + 2 := by rfl) : G K Γ ω σ pc ll (r) := by
  subst hn
  obtain ⟨l, D, cy⟩ := K
  obtain ⟨p, e, R, s, m, args, below, meth, c, A, H0, Q⟩ := Γ
  obtain ⟨z, k9, n9, L⟩ := ω
  obtain ⟨⟨hx, hb, hml, hown, hts⟩, hrt, hlk, ⟨hK, hEv⟩, hA, hR, hmn, hE⟩ := hC
  intro H locs ls hz hW hS hl
  exact lv_lload hx hb hd (hl.2.2 _ _ hg) (k H locs ls hz hW hS hl)
theorem g_aload_n (hC : gC K Γ cc nL own mn d mc ms rt Po) {i : Fin 4} {x : Nat} (hg : g_get ll i = some (.ref x)) (hd : decode cc pc = .ok (.aload_n i, 1)) (k : G K Γ ω σ n ll (.ref x :: r)) (hn : n = pc + 1 := by rfl) : G K Γ ω σ pc ll (r) := by
  subst hn
  obtain ⟨l, D, cy⟩ := K
  obtain ⟨p, e, R, s, m, args, below, meth, c, A, H0, Q⟩ := Γ
  obtain ⟨z, k9, n9, L⟩ := ω
  obtain ⟨⟨hx, hb, hml, hown, hts⟩, hrt, hlk, ⟨hK, hEv⟩, hA, hR, hmn, hE⟩ := hC
  intro H locs ls hz hW hS hl
  exact lv_aload_n hx hb hd rfl (hl.2.2 _ _ hg) (k H locs ls hz hW hS hl)
theorem g_aload (hC : gC K Γ cc nL own mn d mc ms rt Po) {i : Nat} {x : Nat} (hg : g_get ll i = some (.ref x)) (hd : decode cc pc = .ok (.aload i, 2)) (k : G K Γ ω σ n ll (.ref x :: r)) (hn : n = pc + 2 := by rfl) : G K Γ ω σ pc ll (r) := by
  subst hn
  obtain ⟨l, D, cy⟩ := K
  obtain ⟨p, e, R, s, m, args, below, meth, c, A, H0, Q⟩ := Γ
  obtain ⟨z, k9, n9, L⟩ := ω
  obtain ⟨⟨hx, hb, hml, hown, hts⟩, hrt, hlk, ⟨hK, hEv⟩, hA, hR, hmn, hE⟩ := hC
  intro H locs ls hz hW hS hl
  exact lv_aload hx hb hd (hl.2.2 _ _ hg) (k H locs ls hz hW hS hl)
theorem g_dload_n (hC : gC K Γ cc nL own mn d mc ms rt Po) {i : Fin 4} {x : UInt64} (hg : g_get ll i = some (.double x)) (hd : decode cc pc = .ok (.dload_n i, 1)) (k : G K Γ ω σ n ll (.double x :: r)) (hn : n = pc + 1 := by rfl) : G K Γ ω σ pc ll (r) := by
  subst hn
  obtain ⟨l, D, cy⟩ := K
  obtain ⟨p, e, R, s, m, args, below, meth, c, A, H0, Q⟩ := Γ
  obtain ⟨z, k9, n9, L⟩ := ω
  obtain ⟨⟨hx, hb, hml, hown, hts⟩, hrt, hlk, ⟨hK, hEv⟩, hA, hR, hmn, hE⟩ := hC
  intro H locs ls hz hW hS hl
  exact lv_dload_n hx hb hd rfl (hl.2.2 _ _ hg) (k H locs ls hz hW hS hl)
theorem g_dload (hC : gC K Γ cc nL own mn d mc ms rt Po) {i : Nat} {x : UInt64} (hg : g_get ll i = some (.double x)) (hd : decode cc pc = .ok (.dload i, 2)) (k : G K Γ ω σ n ll (.double x :: r)) (hn : n = pc + 2 := by rfl) : G K Γ ω σ pc ll (r) := by
  subst hn
  obtain ⟨l, D, cy⟩ := K
  obtain ⟨p, e, R, s, m, args, below, meth, c, A, H0, Q⟩ := Γ
  obtain ⟨z, k9, n9, L⟩ := ω
  obtain ⟨⟨hx, hb, hml, hown, hts⟩, hrt, hlk, ⟨hK, hEv⟩, hA, hR, hmn, hE⟩ := hC
  intro H locs ls hz hW hS hl
  exact lv_dload hx hb hd (hl.2.2 _ _ hg) (k H locs ls hz hW hS hl)
theorem g_istore_n (hC : gC K Γ cc nL own mn d mc ms rt Po) {i : Fin 4} {x : Int32} (hd : decode cc pc = .ok (.istore_n i, 1)) (hll : g_st1 ll (i : Nat) (.int x) = ll1) (k : G K Γ ω σ n ll1 r) (hi : (i : Nat) < ll.length := by exact Nat.le_of_ble_eq_true rfl) (hn : n = pc + 1 := by rfl) : G K Γ ω σ pc ll (.int x :: r) := by
  subst hn
  subst hll
  obtain ⟨l, D, cy⟩ := K
  obtain ⟨p, e, R, s, m, args, below, meth, c, A, H0, Q⟩ := Γ
  obtain ⟨z, k9, n9, L⟩ := ω
  obtain ⟨⟨hx, hb, hml, hown, hts⟩, hrt, hlk, ⟨hK, hEv⟩, hA, hR, hmn, hE⟩ := hC
  intro H locs ls hz hW hS hl
  refine lv_istore_n hx hb hd rfl hl.lv hi rfl (fun ls1 h1 => k H locs ls1 hz hW hS (g_has.st1 h1))
theorem g_istore (hC : gC K Γ cc nL own mn d mc ms rt Po) {i : Nat} {x : Int32} (hd : decode cc pc = .ok (.istore i, 2)) (hll : g_st1 ll (i : Nat) (.int x) = ll1) (k : G K Γ ω σ n ll1 r) (hi : (i : Nat) < ll.length := by exact Nat.le_of_ble_eq_true rfl) (hn : n = pc + 2 := by rfl) : G K Γ ω σ pc ll (.int x :: r) := by
  subst hn
  subst hll
  obtain ⟨l, D, cy⟩ := K
  obtain ⟨p, e, R, s, m, args, below, meth, c, A, H0, Q⟩ := Γ
  obtain ⟨z, k9, n9, L⟩ := ω
  obtain ⟨⟨hx, hb, hml, hown, hts⟩, hrt, hlk, ⟨hK, hEv⟩, hA, hR, hmn, hE⟩ := hC
  intro H locs ls hz hW hS hl
  refine lv_istore hx hb hd hl.lv hi rfl (fun ls1 h1 => k H locs ls1 hz hW hS (g_has.st1 h1))
theorem g_lstore_n (hC : gC K Γ cc nL own mn d mc ms rt Po) {i : Fin 4} {x : Int64} (hd : decode cc pc = .ok (.lstore_n i, 1)) (hll : g_st2 ll (i : Nat) (.long x) = ll1) (k : G K Γ ω σ n ll1 r) (hi : (i : Nat) + 1 < ll.length := by exact Nat.le_of_ble_eq_true rfl) (hn : n = pc + 1 := by rfl) : G K Γ ω σ pc ll (.long x :: r) := by
  subst hn
  subst hll
  obtain ⟨l, D, cy⟩ := K
  obtain ⟨p, e, R, s, m, args, below, meth, c, A, H0, Q⟩ := Γ
  obtain ⟨z, k9, n9, L⟩ := ω
  obtain ⟨⟨hx, hb, hml, hown, hts⟩, hrt, hlk, ⟨hK, hEv⟩, hA, hR, hmn, hE⟩ := hC
  intro H locs ls hz hW hS hl
  refine lv_lstore_n hx hb hd rfl hl.lv hi rfl (fun ls1 h1 => k H locs ls1 hz hW hS (g_has.st2 h1))
theorem g_lstore (hC : gC K Γ cc nL own mn d mc ms rt Po) {i : Nat} {x : Int64} (hd : decode cc pc = .ok (.lstore i, 2)) (hll : g_st2 ll (i : Nat) (.long x) = ll1) (k : G K Γ ω σ n ll1 r) (hi : (i : Nat) + 1 < ll.length := by exact Nat.le_of_ble_eq_true rfl) (hn : n = pc + 2 := by rfl) : G K Γ ω σ pc ll (.long x :: r) := by
  subst hn
  subst hll
  obtain ⟨l, D, cy⟩ := K
  obtain ⟨p, e, R, s, m, args, below, meth, c, A, H0, Q⟩ := Γ
  obtain ⟨z, k9, n9, L⟩ := ω
  obtain ⟨⟨hx, hb, hml, hown, hts⟩, hrt, hlk, ⟨hK, hEv⟩, hA, hR, hmn, hE⟩ := hC
  intro H locs ls hz hW hS hl
  refine lv_lstore hx hb hd hl.lv hi rfl (fun ls1 h1 => k H locs ls1 hz hW hS (g_has.st2 h1))
theorem g_astore_n (hC : gC K Γ cc nL own mn d mc ms rt Po) {i : Fin 4} {x : Nat} (hd : decode cc pc = .ok (.astore_n i, 1)) (hll : g_st1 ll (i : Nat) (.ref x) = ll1) (k : G K Γ ω σ n ll1 r) (hi : (i : Nat) < ll.length := by exact Nat.le_of_ble_eq_true rfl) (hn : n = pc + 1 := by rfl) : G K Γ ω σ pc ll (.ref x :: r) := by
  subst hn
  subst hll
  obtain ⟨l, D, cy⟩ := K
  obtain ⟨p, e, R, s, m, args, below, meth, c, A, H0, Q⟩ := Γ
  obtain ⟨z, k9, n9, L⟩ := ω
  obtain ⟨⟨hx, hb, hml, hown, hts⟩, hrt, hlk, ⟨hK, hEv⟩, hA, hR, hmn, hE⟩ := hC
  intro H locs ls hz hW hS hl
  refine lv_astore_n hx hb hd rfl hl.lv hi rfl (fun ls1 h1 => k H locs ls1 hz hW hS (g_has.st1 h1))
theorem g_astore (hC : gC K Γ cc nL own mn d mc ms rt Po) {i : Nat} {x : Nat} (hd : decode cc pc = .ok (.astore i, 2)) (hll : g_st1 ll (i : Nat) (.ref x) = ll1) (k : G K Γ ω σ n ll1 r) (hi : (i : Nat) < ll.length := by exact Nat.le_of_ble_eq_true rfl) (hn : n = pc + 2 := by rfl) : G K Γ ω σ pc ll (.ref x :: r) := by
  subst hn
  subst hll
  obtain ⟨l, D, cy⟩ := K
  obtain ⟨p, e, R, s, m, args, below, meth, c, A, H0, Q⟩ := Γ
  obtain ⟨z, k9, n9, L⟩ := ω
  obtain ⟨⟨hx, hb, hml, hown, hts⟩, hrt, hlk, ⟨hK, hEv⟩, hA, hR, hmn, hE⟩ := hC
  intro H locs ls hz hW hS hl
  refine lv_astore hx hb hd hl.lv hi rfl (fun ls1 h1 => k H locs ls1 hz hW hS (g_has.st1 h1))
theorem g_dstore_n (hC : gC K Γ cc nL own mn d mc ms rt Po) {i : Fin 4} {x : UInt64} (hd : decode cc pc = .ok (.dstore_n i, 1)) (hll : g_st2 ll (i : Nat) (.double x) = ll1) (k : G K Γ ω σ n ll1 r) (hi : (i : Nat) + 1 < ll.length := by exact Nat.le_of_ble_eq_true rfl) (hn : n = pc + 1 := by rfl) : G K Γ ω σ pc ll (.double x :: r) := by
  subst hn
  subst hll
  obtain ⟨l, D, cy⟩ := K
  obtain ⟨p, e, R, s, m, args, below, meth, c, A, H0, Q⟩ := Γ
  obtain ⟨z, k9, n9, L⟩ := ω
  obtain ⟨⟨hx, hb, hml, hown, hts⟩, hrt, hlk, ⟨hK, hEv⟩, hA, hR, hmn, hE⟩ := hC
  intro H locs ls hz hW hS hl
  refine lv_dstore_n hx hb hd rfl hl.lv hi rfl (fun ls1 h1 => k H locs ls1 hz hW hS (g_has.st2 h1))
theorem g_dstore (hC : gC K Γ cc nL own mn d mc ms rt Po) {i : Nat} {x : UInt64} (hd : decode cc pc = .ok (.dstore i, 2)) (hll : g_st2 ll (i : Nat) (.double x) = ll1) (k : G K Γ ω σ n ll1 r) (hi : (i : Nat) + 1 < ll.length := by exact Nat.le_of_ble_eq_true rfl) (hn : n = pc + 2 := by rfl) : G K Γ ω σ pc ll (.double x :: r) := by
  subst hn
  subst hll
  obtain ⟨l, D, cy⟩ := K
  obtain ⟨p, e, R, s, m, args, below, meth, c, A, H0, Q⟩ := Γ
  obtain ⟨z, k9, n9, L⟩ := ω
  obtain ⟨⟨hx, hb, hml, hown, hts⟩, hrt, hlk, ⟨hK, hEv⟩, hA, hR, hmn, hE⟩ := hC
  intro H locs ls hz hW hS hl
  refine lv_dstore hx hb hd hl.lv hi rfl (fun ls1 h1 => k H locs ls1 hz hW hS (g_has.st2 h1))
theorem g_iinc (hC : gC K Γ cc nL own mn d mc ms rt Po) {i : Nat} {q : Int} {x v : Int32} (hd : decode cc pc = .ok (.iinc i q, 3)) (hg : g_get ll i = some (.int x)) (hv : x + Int32.ofInt q = v) (hll : g_st1 ll i (.int v) = ll1) (k : G K Γ ω σ n ll1 r) (hi : i < ll.length := by exact Nat.le_of_ble_eq_true rfl) (hn : n = pc + 3 := by rfl) : G K Γ ω σ pc ll r := by
  subst hn
  subst hll
  obtain ⟨l, D, cy⟩ := K
  obtain ⟨p, e, R, s, m, args, below, meth, c, A, H0, Q⟩ := Γ
  obtain ⟨z, k9, n9, L⟩ := ω
  obtain ⟨⟨hx, hb, hml, hown, hts⟩, hrt, hlk, ⟨hK, hEv⟩, hA, hR, hmn, hE⟩ := hC
  intro H locs ls hz hW hS hl
  obtain ⟨q0, hq0⟩ := List.getElem?_of_mem ((g_al_mem ll 0 i (.int x)).mpr ⟨i, by omega, hg⟩)
  exact lv_iinc hx hb hd hl.lv hq0 hv hi rfl (fun ls1 h1 => k H locs ls1 hz hW hS (g_has.st1 h1))
theorem g_iadd (hC : gC K Γ cc nL own mn d mc ms rt Po) {x y : Int32} (hd : decode cc pc = .ok (.iadd, 1)) (k : G K Γ ω σ n ll (.int (x + y) :: r)) (hn : n = pc + 1 := by rfl) : G K Γ ω σ pc ll (.int y :: .int x :: r) := by
  subst hn
  obtain ⟨l, D, cy⟩ := K
  obtain ⟨p, e, R, s, m, args, below, meth, c, A, H0, Q⟩ := Γ
  obtain ⟨z, k9, n9, L⟩ := ω
  obtain ⟨⟨hx, hb, hml, hown, hts⟩, hrt, hlk, ⟨hK, hEv⟩, hA, hR, hmn, hE⟩ := hC
  intro H locs ls hz hW hS hl
  exact lv_iadd hx hb hd (k H locs ls hz hW hS hl)
theorem g_isub (hC : gC K Γ cc nL own mn d mc ms rt Po) {x y : Int32} (hd : decode cc pc = .ok (.isub, 1)) (k : G K Γ ω σ n ll (.int (x - y) :: r)) (hn : n = pc + 1 := by rfl) : G K Γ ω σ pc ll (.int y :: .int x :: r) := by
  subst hn
  obtain ⟨l, D, cy⟩ := K
  obtain ⟨p, e, R, s, m, args, below, meth, c, A, H0, Q⟩ := Γ
  obtain ⟨z, k9, n9, L⟩ := ω
  obtain ⟨⟨hx, hb, hml, hown, hts⟩, hrt, hlk, ⟨hK, hEv⟩, hA, hR, hmn, hE⟩ := hC
  intro H locs ls hz hW hS hl
  exact lv_isub hx hb hd (k H locs ls hz hW hS hl)
theorem g_imul (hC : gC K Γ cc nL own mn d mc ms rt Po) {x y : Int32} (hd : decode cc pc = .ok (.imul, 1)) (k : G K Γ ω σ n ll (.int (x * y) :: r)) (hn : n = pc + 1 := by rfl) : G K Γ ω σ pc ll (.int y :: .int x :: r) := by
  subst hn
  obtain ⟨l, D, cy⟩ := K
  obtain ⟨p, e, R, s, m, args, below, meth, c, A, H0, Q⟩ := Γ
  obtain ⟨z, k9, n9, L⟩ := ω
  obtain ⟨⟨hx, hb, hml, hown, hts⟩, hrt, hlk, ⟨hK, hEv⟩, hA, hR, hmn, hE⟩ := hC
  intro H locs ls hz hW hS hl
  exact lv_imul hx hb hd (k H locs ls hz hW hS hl)
theorem g_iand (hC : gC K Γ cc nL own mn d mc ms rt Po) {x y : Int32} (hd : decode cc pc = .ok (.iand, 1)) (k : G K Γ ω σ n ll (.int (x &&& y) :: r)) (hn : n = pc + 1 := by rfl) : G K Γ ω σ pc ll (.int y :: .int x :: r) := by
  subst hn
  obtain ⟨l, D, cy⟩ := K
  obtain ⟨p, e, R, s, m, args, below, meth, c, A, H0, Q⟩ := Γ
  obtain ⟨z, k9, n9, L⟩ := ω
  obtain ⟨⟨hx, hb, hml, hown, hts⟩, hrt, hlk, ⟨hK, hEv⟩, hA, hR, hmn, hE⟩ := hC
  intro H locs ls hz hW hS hl
  exact lv_iand hx hb hd (k H locs ls hz hW hS hl)
theorem g_ior (hC : gC K Γ cc nL own mn d mc ms rt Po) {x y : Int32} (hd : decode cc pc = .ok (.ior, 1)) (k : G K Γ ω σ n ll (.int (x ||| y) :: r)) (hn : n = pc + 1 := by rfl) : G K Γ ω σ pc ll (.int y :: .int x :: r) := by
  subst hn
  obtain ⟨l, D, cy⟩ := K
  obtain ⟨p, e, R, s, m, args, below, meth, c, A, H0, Q⟩ := Γ
  obtain ⟨z, k9, n9, L⟩ := ω
  obtain ⟨⟨hx, hb, hml, hown, hts⟩, hrt, hlk, ⟨hK, hEv⟩, hA, hR, hmn, hE⟩ := hC
  intro H locs ls hz hW hS hl
  exact lv_ior hx hb hd (k H locs ls hz hW hS hl)
theorem g_iaddN (hC : gC K Γ cc nL own mn d mc ms rt Po) {a b : Nat} (hd : decode cc pc = .ok (.iadd, 1)) (k : G K Γ ω σ n ll (.int (nI (a + b)) :: r)) (hn : n = pc + 1 := by rfl) : G K Γ ω σ pc ll (.int (nI b) :: .int (nI a) :: r) := by
  subst hn
  obtain ⟨l, D, cy⟩ := K
  obtain ⟨p, e, R, s, m, args, below, meth, c, A, H0, Q⟩ := Γ
  obtain ⟨z, k9, n9, L⟩ := ω
  obtain ⟨⟨hx, hb, hml, hown, hts⟩, hrt, hlk, ⟨hK, hEv⟩, hA, hR, hmn, hE⟩ := hC
  intro H locs ls hz hW hS hl
  exact lv_iadd hx hb hd (by rw [nI_add]; exact (k H locs ls hz hW hS hl))
theorem g_isubN (hC : gC K Γ cc nL own mn d mc ms rt Po) {a b : Nat} (h : b ≤ a) (hd : decode cc pc = .ok (.isub, 1)) (k : G K Γ ω σ n ll (.int (nI (a - b)) :: r)) (hn : n = pc + 1 := by rfl) : G K Γ ω σ pc ll (.int (nI b) :: .int (nI a) :: r) := by
  subst hn
  obtain ⟨l, D, cy⟩ := K
  obtain ⟨p, e, R, s, m, args, below, meth, c, A, H0, Q⟩ := Γ
  obtain ⟨z, k9, n9, L⟩ := ω
  obtain ⟨⟨hx, hb, hml, hown, hts⟩, hrt, hlk, ⟨hK, hEv⟩, hA, hR, hmn, hE⟩ := hC
  intro H locs ls hz hW hS hl
  exact lv_isub hx hb hd (by rw [pk_sub h]; exact (k H locs ls hz hW hS hl))
theorem g_imulN (hC : gC K Γ cc nL own mn d mc ms rt Po) {a b : Nat} (hd : decode cc pc = .ok (.imul, 1)) (k : G K Γ ω σ n ll (.int (nI (a * b)) :: r)) (hn : n = pc + 1 := by rfl) : G K Γ ω σ pc ll (.int (nI b) :: .int (nI a) :: r) := by
  subst hn
  obtain ⟨l, D, cy⟩ := K
  obtain ⟨p, e, R, s, m, args, below, meth, c, A, H0, Q⟩ := Γ
  obtain ⟨z, k9, n9, L⟩ := ω
  obtain ⟨⟨hx, hb, hml, hown, hts⟩, hrt, hlk, ⟨hK, hEv⟩, hA, hR, hmn, hE⟩ := hC
  intro H locs ls hz hW hS hl
  exact lv_imul hx hb hd (by rw [pk_mul]; exact (k H locs ls hz hW hS hl))
theorem g_idivN (hC : gC K Γ cc nL own mn d mc ms rt Po) {a b : Nat} (ha : a < 2 ^ 31) (hb0 : 0 < b) (hb1 : b < 2 ^ 31) (hd : decode cc pc = .ok (.idiv, 1)) (k : G K Γ ω σ n ll (.int (nI (a / b)) :: r)) (hn : n = pc + 1 := by rfl) : G K Γ ω σ pc ll (.int (nI b) :: .int (nI a) :: r) := by
  subst hn
  obtain ⟨l, D, cy⟩ := K
  obtain ⟨p, e, R, s, m, args, below, meth, c, A, H0, Q⟩ := Γ
  obtain ⟨z, k9, n9, L⟩ := ω
  obtain ⟨⟨hx, hb, hml, hown, hts⟩, hrt, hlk, ⟨hK, hEv⟩, hA, hR, hmn, hE⟩ := hC
  intro H locs ls hz hW hS hl
  exact lv_idiv hx hb hd (nI_ne0 hb0 hb1) (by rw [pk_div ha hb0 hb1]; exact (k H locs ls hz hW hS hl))
theorem g_idiv (hC : gC K Γ cc nL own mn d mc ms rt Po) {x y : Int32} (hy : ¬ y = 0) (hd : decode cc pc = .ok (.idiv, 1)) (k : G K Γ ω σ n ll (.int (x / y) :: r)) (hn : n = pc + 1 := by rfl) : G K Γ ω σ pc ll (.int y :: .int x :: r) := by
  subst hn
  obtain ⟨l, D, cy⟩ := K
  obtain ⟨p, e, R, s, m, args, below, meth, c, A, H0, Q⟩ := Γ
  obtain ⟨z, k9, n9, L⟩ := ω
  obtain ⟨⟨hx, hb, hml, hown, hts⟩, hrt, hlk, ⟨hK, hEv⟩, hA, hR, hmn, hE⟩ := hC
  intro H locs ls hz hW hS hl
  exact lv_idiv hx hb hd hy (k H locs ls hz hW hS hl)
theorem g_irem (hC : gC K Γ cc nL own mn d mc ms rt Po) {x y v : Int32} (hy : ¬ y = 0) (hv : x - x / y * y = v) (hd : decode cc pc = .ok (.irem, 1)) (k : G K Γ ω σ n ll (.int v :: r)) (hn : n = pc + 1 := by rfl) : G K Γ ω σ pc ll (.int y :: .int x :: r) := by
  subst hn
  obtain ⟨l, D, cy⟩ := K
  obtain ⟨p, e, R, s, m, args, below, meth, c, A, H0, Q⟩ := Γ
  obtain ⟨z, k9, n9, L⟩ := ω
  obtain ⟨⟨hx, hb, hml, hown, hts⟩, hrt, hlk, ⟨hK, hEv⟩, hA, hR, hmn, hE⟩ := hC
  intro H locs ls hz hW hS hl
  subst hv
  exact lv_irem hx hb hd hy (k H locs ls hz hW hS hl)
theorem g_ineg (hC : gC K Γ cc nL own mn d mc ms rt Po) {x : Int32} (hd : decode cc pc = .ok (.ineg, 1)) (k : G K Γ ω σ n ll (.int (-x) :: r)) (hn : n = pc + 1 := by rfl) : G K Γ ω σ pc ll (.int x :: r) := by
  subst hn
  obtain ⟨l, D, cy⟩ := K
  obtain ⟨p, e, R, s, m, args, below, meth, c, A, H0, Q⟩ := Γ
  obtain ⟨z, k9, n9, L⟩ := ω
  obtain ⟨⟨hx, hb, hml, hown, hts⟩, hrt, hlk, ⟨hK, hEv⟩, hA, hR, hmn, hE⟩ := hC
  intro H locs ls hz hW hS hl
  exact lv_ineg hx hb hd (k H locs ls hz hW hS hl)
theorem g_ladd (hC : gC K Γ cc nL own mn d mc ms rt Po) {x y : Int64} (hd : decode cc pc = .ok (.ladd, 1)) (k : G K Γ ω σ n ll (.long (x + y) :: r)) (hn : n = pc + 1 := by rfl) : G K Γ ω σ pc ll (.long y :: .long x :: r) := by
  subst hn
  obtain ⟨l, D, cy⟩ := K
  obtain ⟨p, e, R, s, m, args, below, meth, c, A, H0, Q⟩ := Γ
  obtain ⟨z, k9, n9, L⟩ := ω
  obtain ⟨⟨hx, hb, hml, hown, hts⟩, hrt, hlk, ⟨hK, hEv⟩, hA, hR, hmn, hE⟩ := hC
  intro H locs ls hz hW hS hl
  exact lv_ladd hx hb hd (k H locs ls hz hW hS hl)
theorem g_lsub (hC : gC K Γ cc nL own mn d mc ms rt Po) {x y : Int64} (hd : decode cc pc = .ok (.lsub, 1)) (k : G K Γ ω σ n ll (.long (x - y) :: r)) (hn : n = pc + 1 := by rfl) : G K Γ ω σ pc ll (.long y :: .long x :: r) := by
  subst hn
  obtain ⟨l, D, cy⟩ := K
  obtain ⟨p, e, R, s, m, args, below, meth, c, A, H0, Q⟩ := Γ
  obtain ⟨z, k9, n9, L⟩ := ω
  obtain ⟨⟨hx, hb, hml, hown, hts⟩, hrt, hlk, ⟨hK, hEv⟩, hA, hR, hmn, hE⟩ := hC
  intro H locs ls hz hW hS hl
  exact lv_lsub hx hb hd (k H locs ls hz hW hS hl)
theorem g_land (hC : gC K Γ cc nL own mn d mc ms rt Po) {x y : Int64} (hd : decode cc pc = .ok (.land, 1)) (k : G K Γ ω σ n ll (.long (x &&& y) :: r)) (hn : n = pc + 1 := by rfl) : G K Γ ω σ pc ll (.long y :: .long x :: r) := by
  subst hn
  obtain ⟨l, D, cy⟩ := K
  obtain ⟨p, e, R, s, m, args, below, meth, c, A, H0, Q⟩ := Γ
  obtain ⟨z, k9, n9, L⟩ := ω
  obtain ⟨⟨hx, hb, hml, hown, hts⟩, hrt, hlk, ⟨hK, hEv⟩, hA, hR, hmn, hE⟩ := hC
  intro H locs ls hz hW hS hl
  exact lv_land hx hb hd (k H locs ls hz hW hS hl)
theorem g_lor (hC : gC K Γ cc nL own mn d mc ms rt Po) {x y : Int64} (hd : decode cc pc = .ok (.lor, 1)) (k : G K Γ ω σ n ll (.long (x ||| y) :: r)) (hn : n = pc + 1 := by rfl) : G K Γ ω σ pc ll (.long y :: .long x :: r) := by
  subst hn
  obtain ⟨l, D, cy⟩ := K
  obtain ⟨p, e, R, s, m, args, below, meth, c, A, H0, Q⟩ := Γ
  obtain ⟨z, k9, n9, L⟩ := ω
  obtain ⟨⟨hx, hb, hml, hown, hts⟩, hrt, hlk, ⟨hK, hEv⟩, hA, hR, hmn, hE⟩ := hC
  intro H locs ls hz hW hS hl
  exact lv_lor hx hb hd (k H locs ls hz hW hS hl)
theorem g_lxor (hC : gC K Γ cc nL own mn d mc ms rt Po) {x y : Int64} (hd : decode cc pc = .ok (.lxor, 1)) (k : G K Γ ω σ n ll (.long (x ^^^ y) :: r)) (hn : n = pc + 1 := by rfl) : G K Γ ω σ pc ll (.long y :: .long x :: r) := by
  subst hn
  obtain ⟨l, D, cy⟩ := K
  obtain ⟨p, e, R, s, m, args, below, meth, c, A, H0, Q⟩ := Γ
  obtain ⟨z, k9, n9, L⟩ := ω
  obtain ⟨⟨hx, hb, hml, hown, hts⟩, hrt, hlk, ⟨hK, hEv⟩, hA, hR, hmn, hE⟩ := hC
  intro H locs ls hz hW hS hl
  exact lv_lxor hx hb hd (k H locs ls hz hW hS hl)
theorem g_i2l (hC : gC K Γ cc nL own mn d mc ms rt Po) {x : Int32} {v : Int64} (hv : x.toInt64 = v) (hd : decode cc pc = .ok (.i2l, 1)) (k : G K Γ ω σ n ll (.long v :: r)) (hn : n = pc + 1 := by rfl) : G K Γ ω σ pc ll (.int x :: r) := by
  subst hn
  obtain ⟨l, D, cy⟩ := K
  obtain ⟨p, e, R, s, m, args, below, meth, c, A, H0, Q⟩ := Γ
  obtain ⟨z, k9, n9, L⟩ := ω
  obtain ⟨⟨hx, hb, hml, hown, hts⟩, hrt, hlk, ⟨hK, hEv⟩, hA, hR, hmn, hE⟩ := hC
  intro H locs ls hz hW hS hl
  exact lv_i2l hx hb hd hv (k H locs ls hz hW hS hl)
theorem g_l2i (hC : gC K Γ cc nL own mn d mc ms rt Po) {x : Int64} {v : Int32} (hv : x.toInt32 = v) (hd : decode cc pc = .ok (.l2i, 1)) (k : G K Γ ω σ n ll (.int v :: r)) (hn : n = pc + 1 := by rfl) : G K Γ ω σ pc ll (.long x :: r) := by
  subst hn
  obtain ⟨l, D, cy⟩ := K
  obtain ⟨p, e, R, s, m, args, below, meth, c, A, H0, Q⟩ := Γ
  obtain ⟨z, k9, n9, L⟩ := ω
  obtain ⟨⟨hx, hb, hml, hown, hts⟩, hrt, hlk, ⟨hK, hEv⟩, hA, hR, hmn, hE⟩ := hC
  intro H locs ls hz hW hS hl
  exact lv_l2i hx hb hd hv (k H locs ls hz hW hS hl)
theorem g_i2c (hC : gC K Γ cc nL own mn d mc ms rt Po) {x : Int32} {v : Int32} (hv : (x.toUInt32 % 65536).toInt32 = v) (hd : decode cc pc = .ok (.i2c, 1)) (k : G K Γ ω σ n ll (.int v :: r)) (hn : n = pc + 1 := by rfl) : G K Γ ω σ pc ll (.int x :: r) := by
  subst hn
  obtain ⟨l, D, cy⟩ := K
  obtain ⟨p, e, R, s, m, args, below, meth, c, A, H0, Q⟩ := Γ
  obtain ⟨z, k9, n9, L⟩ := ω
  obtain ⟨⟨hx, hb, hml, hown, hts⟩, hrt, hlk, ⟨hK, hEv⟩, hA, hR, hmn, hE⟩ := hC
  intro H locs ls hz hW hS hl
  exact lv_i2c hx hb hd hv (k H locs ls hz hW hS hl)
theorem g_lushr (hC : gC K Γ cc nL own mn d mc ms rt Po) {x v : Int64} {y : Int32} (hv : (x.toUInt64 >>> (y.toInt64.toUInt64 &&& Int64.toUInt64 63)).toInt64 = v) (hd : decode cc pc = .ok (.lushr, 1)) (k : G K Γ ω σ n ll (.long v :: r)) (hn : n = pc + 1 := by rfl) : G K Γ ω σ pc ll (.int y :: .long x :: r) := by
  subst hn
  obtain ⟨l, D, cy⟩ := K
  obtain ⟨p, e, R, s, m, args, below, meth, c, A, H0, Q⟩ := Γ
  obtain ⟨z, k9, n9, L⟩ := ω
  obtain ⟨⟨hx, hb, hml, hown, hts⟩, hrt, hlk, ⟨hK, hEv⟩, hA, hR, hmn, hE⟩ := hC
  intro H locs ls hz hW hS hl
  exact lv_lushr hx hb hd hv (k H locs ls hz hW hS hl)
theorem g_lshl (hC : gC K Γ cc nL own mn d mc ms rt Po) {x v : Int64} {y : Int32} (hv : x <<< (y.toInt64 &&& 63) = v) (hd : decode cc pc = .ok (.lshl, 1)) (k : G K Γ ω σ n ll (.long v :: r)) (hn : n = pc + 1 := by rfl) : G K Γ ω σ pc ll (.int y :: .long x :: r) := by
  subst hn
  obtain ⟨l, D, cy⟩ := K
  obtain ⟨p, e, R, s, m, args, below, meth, c, A, H0, Q⟩ := Γ
  obtain ⟨z, k9, n9, L⟩ := ω
  obtain ⟨⟨hx, hb, hml, hown, hts⟩, hrt, hlk, ⟨hK, hEv⟩, hA, hR, hmn, hE⟩ := hC
  intro H locs ls hz hW hS hl
  exact lv_lshl hx hb hd hv (k H locs ls hz hW hS hl)
theorem g_lshr (hC : gC K Γ cc nL own mn d mc ms rt Po) {x v : Int64} {y : Int32} (hv : x >>> (y.toInt64 &&& 63) = v) (hd : decode cc pc = .ok (.lshr, 1)) (k : G K Γ ω σ n ll (.long v :: r)) (hn : n = pc + 1 := by rfl) : G K Γ ω σ pc ll (.int y :: .long x :: r) := by
  subst hn
  obtain ⟨l, D, cy⟩ := K
  obtain ⟨p, e, R, s, m, args, below, meth, c, A, H0, Q⟩ := Γ
  obtain ⟨z, k9, n9, L⟩ := ω
  obtain ⟨⟨hx, hb, hml, hown, hts⟩, hrt, hlk, ⟨hK, hEv⟩, hA, hR, hmn, hE⟩ := hC
  intro H locs ls hz hW hS hl
  exact lv_lshr hx hb hd hv (k H locs ls hz hW hS hl)
theorem g_dup (hC : gC K Γ cc nL own mn d mc ms rt Po) {v : Value} (hv : v.category = 1) (hd : decode cc pc = .ok (.dup, 1)) (k : G K Γ ω σ n ll (v :: v :: r)) (hn : n = pc + 1 := by rfl) : G K Γ ω σ pc ll (v :: r) := by
  subst hn
  obtain ⟨l, D, cy⟩ := K
  obtain ⟨p, e, R, s, m, args, below, meth, c, A, H0, Q⟩ := Γ
  obtain ⟨z, k9, n9, L⟩ := ω
  obtain ⟨⟨hx, hb, hml, hown, hts⟩, hrt, hlk, ⟨hK, hEv⟩, hA, hR, hmn, hE⟩ := hC
  intro H locs ls hz hW hS hl
  exact lv_dup hx hb hd hv (k H locs ls hz hW hS hl)
theorem g_dup2 (hC : gC K Γ cc nL own mn d mc ms rt Po) {v u : Value} (hv : v.category = 1) (hu : u.category = 1) (hd : decode cc pc = .ok (.dup2, 1)) (k : G K Γ ω σ n ll (v :: u :: v :: u :: r)) (hn : n = pc + 1 := by rfl) : G K Γ ω σ pc ll (v :: u :: r) := by
  subst hn
  obtain ⟨l, D, cy⟩ := K
  obtain ⟨p, e, R, s, m, args, below, meth, c, A, H0, Q⟩ := Γ
  obtain ⟨z, k9, n9, L⟩ := ω
  obtain ⟨⟨hx, hb, hml, hown, hts⟩, hrt, hlk, ⟨hK, hEv⟩, hA, hR, hmn, hE⟩ := hC
  intro H locs ls hz hW hS hl
  exact lv_dup2_11 hx hb hd hv hu (k H locs ls hz hW hS hl)
theorem g_pop (hC : gC K Γ cc nL own mn d mc ms rt Po) {v : Value} (hv : v.category = 1) (hd : decode cc pc = .ok (.pop, 1)) (k : G K Γ ω σ n ll (r)) (hn : n = pc + 1 := by rfl) : G K Γ ω σ pc ll (v :: r) := by
  subst hn
  obtain ⟨l, D, cy⟩ := K
  obtain ⟨p, e, R, s, m, args, below, meth, c, A, H0, Q⟩ := Γ
  obtain ⟨z, k9, n9, L⟩ := ω
  obtain ⟨⟨hx, hb, hml, hown, hts⟩, hrt, hlk, ⟨hK, hEv⟩, hA, hR, hmn, hE⟩ := hC
  intro H locs ls hz hW hS hl
  exact lv_pop hx hb hd hv (k H locs ls hz hW hS hl)
theorem g_pop2 (hC : gC K Γ cc nL own mn d mc ms rt Po) {v : Value} (hv : v.category = 2) (hd : decode cc pc = .ok (.pop2, 1)) (k : G K Γ ω σ n ll (r)) (hn : n = pc + 1 := by rfl) : G K Γ ω σ pc ll (v :: r) := by
  subst hn
  obtain ⟨l, D, cy⟩ := K
  obtain ⟨p, e, R, s, m, args, below, meth, c, A, H0, Q⟩ := Γ
  obtain ⟨z, k9, n9, L⟩ := ω
  obtain ⟨⟨hx, hb, hml, hown, hts⟩, hrt, hlk, ⟨hK, hEv⟩, hA, hR, hmn, hE⟩ := hC
  intro H locs ls hz hW hS hl
  exact lv_pop2_2 hx hb hd hv (k H locs ls hz hW hS hl)
theorem g_icmp_eq (hC : gC K Γ cc nL own mn d mc ms rt Po) {off : Int} {tgt : Nat} {x y : Int32} (hd : decode cc pc = .ok (.if_icmp .eq off, 3)) (kt : x = y → G K Γ ω σ tgt ll r) (kf : ¬ x = y → G K Γ ω σ n ll r) (ht : (pc : Int) + off = (tgt : Int) := by decide) (hn : n = pc + 3 := by rfl) : G K Γ ω σ pc ll (.int y :: .int x :: r) := by
  subst hn
  obtain ⟨l, D, cy⟩ := K
  obtain ⟨p, e, R, s, m, args, below, meth, c, A, H0, Q⟩ := Γ
  obtain ⟨z, k9, n9, L⟩ := ω
  obtain ⟨⟨hx, hb, hml, hown, hts⟩, hrt, hlk, ⟨hK, hEv⟩, hA, hR, hmn, hE⟩ := hC
  intro H locs ls hz hW hS hl
  exact lv_icmp_eq hx hb hd ht (fun h => kt h H locs ls hz hW hS hl) (fun h => kf h H locs ls hz hW hS hl)
theorem g_if_eq (hC : gC K Γ cc nL own mn d mc ms rt Po) {off : Int} {tgt : Nat} {x : Int32} (hd : decode cc pc = .ok (.ifCond .eq off, 3)) (kt : x = 0 → G K Γ ω σ tgt ll r) (kf : ¬ x = 0 → G K Γ ω σ n ll r) (ht : (pc : Int) + off = (tgt : Int) := by decide) (hn : n = pc + 3 := by rfl) : G K Γ ω σ pc ll (.int x :: r) := by
  subst hn
  obtain ⟨l, D, cy⟩ := K
  obtain ⟨p, e, R, s, m, args, below, meth, c, A, H0, Q⟩ := Γ
  obtain ⟨z, k9, n9, L⟩ := ω
  obtain ⟨⟨hx, hb, hml, hown, hts⟩, hrt, hlk, ⟨hK, hEv⟩, hA, hR, hmn, hE⟩ := hC
  intro H locs ls hz hW hS hl
  exact lv_if_eq hx hb hd ht (fun h => kt h H locs ls hz hW hS hl) (fun h => kf h H locs ls hz hW hS hl)
theorem g_icmp_eqN (hC : gC K Γ cc nL own mn d mc ms rt Po) {off : Int} {tgt : Nat} {a b : Nat} (ha : a < 2 ^ 31) (hb9 : b < 2 ^ 31) (hd : decode cc pc = .ok (.if_icmp .eq off, 3)) (kt : a = b → G K Γ ω σ tgt ll r) (kf : a ≠ b → G K Γ ω σ n ll r) (ht : (pc : Int) + off = (tgt : Int) := by decide) (hn : n = pc + 3 := by rfl) : G K Γ ω σ pc ll (.int (nI b) :: .int (nI a) :: r) := by
  subst hn
  obtain ⟨l, D, cy⟩ := K
  obtain ⟨p, e, R, s, m, args, below, meth, c, A, H0, Q⟩ := Γ
  obtain ⟨z, k9, n9, L⟩ := ω
  obtain ⟨⟨hx, hb, hml, hown, hts⟩, hrt, hlk, ⟨hK, hEv⟩, hA, hR, hmn, hE⟩ := hC
  intro H locs ls hz hW hS hl
  exact lv_icmp_eq hx hb hd ht (fun h => kt ((nI_eq ha hb9).mp h) H locs ls hz hW hS hl) (fun h => kf (fun q => h ((nI_eq ha hb9).mpr q)) H locs ls hz hW hS hl)
theorem g_icmp_ne (hC : gC K Γ cc nL own mn d mc ms rt Po) {off : Int} {tgt : Nat} {x y : Int32} (hd : decode cc pc = .ok (.if_icmp .ne off, 3)) (kt : ¬ x = y → G K Γ ω σ tgt ll r) (kf : x = y → G K Γ ω σ n ll r) (ht : (pc : Int) + off = (tgt : Int) := by decide) (hn : n = pc + 3 := by rfl) : G K Γ ω σ pc ll (.int y :: .int x :: r) := by
  subst hn
  obtain ⟨l, D, cy⟩ := K
  obtain ⟨p, e, R, s, m, args, below, meth, c, A, H0, Q⟩ := Γ
  obtain ⟨z, k9, n9, L⟩ := ω
  obtain ⟨⟨hx, hb, hml, hown, hts⟩, hrt, hlk, ⟨hK, hEv⟩, hA, hR, hmn, hE⟩ := hC
  intro H locs ls hz hW hS hl
  exact lv_icmp_ne hx hb hd ht (fun h => kt h H locs ls hz hW hS hl) (fun h => kf h H locs ls hz hW hS hl)
theorem g_if_ne (hC : gC K Γ cc nL own mn d mc ms rt Po) {off : Int} {tgt : Nat} {x : Int32} (hd : decode cc pc = .ok (.ifCond .ne off, 3)) (kt : ¬ x = 0 → G K Γ ω σ tgt ll r) (kf : x = 0 → G K Γ ω σ n ll r) (ht : (pc : Int) + off = (tgt : Int) := by decide) (hn : n = pc + 3 := by rfl) : G K Γ ω σ pc ll (.int x :: r) := by
  subst hn
  obtain ⟨l, D, cy⟩ := K
  obtain ⟨p, e, R, s, m, args, below, meth, c, A, H0, Q⟩ := Γ
  obtain ⟨z, k9, n9, L⟩ := ω
  obtain ⟨⟨hx, hb, hml, hown, hts⟩, hrt, hlk, ⟨hK, hEv⟩, hA, hR, hmn, hE⟩ := hC
  intro H locs ls hz hW hS hl
  exact lv_if_ne hx hb hd ht (fun h => kt h H locs ls hz hW hS hl) (fun h => kf h H locs ls hz hW hS hl)
theorem g_icmp_neN (hC : gC K Γ cc nL own mn d mc ms rt Po) {off : Int} {tgt : Nat} {a b : Nat} (ha : a < 2 ^ 31) (hb9 : b < 2 ^ 31) (hd : decode cc pc = .ok (.if_icmp .ne off, 3)) (kt : a ≠ b → G K Γ ω σ tgt ll r) (kf : a = b → G K Γ ω σ n ll r) (ht : (pc : Int) + off = (tgt : Int) := by decide) (hn : n = pc + 3 := by rfl) : G K Γ ω σ pc ll (.int (nI b) :: .int (nI a) :: r) := by
  subst hn
  obtain ⟨l, D, cy⟩ := K
  obtain ⟨p, e, R, s, m, args, below, meth, c, A, H0, Q⟩ := Γ
  obtain ⟨z, k9, n9, L⟩ := ω
  obtain ⟨⟨hx, hb, hml, hown, hts⟩, hrt, hlk, ⟨hK, hEv⟩, hA, hR, hmn, hE⟩ := hC
  intro H locs ls hz hW hS hl
  exact lv_icmp_ne hx hb hd ht (fun h => kt (fun q => h ((nI_eq ha hb9).mpr q)) H locs ls hz hW hS hl) (fun h => kf ((nI_eq ha hb9).mp h) H locs ls hz hW hS hl)
theorem g_icmp_lt (hC : gC K Γ cc nL own mn d mc ms rt Po) {off : Int} {tgt : Nat} {x y : Int32} (hd : decode cc pc = .ok (.if_icmp .lt off, 3)) (kt : x < y → G K Γ ω σ tgt ll r) (kf : ¬ x < y → G K Γ ω σ n ll r) (ht : (pc : Int) + off = (tgt : Int) := by decide) (hn : n = pc + 3 := by rfl) : G K Γ ω σ pc ll (.int y :: .int x :: r) := by
  subst hn
  obtain ⟨l, D, cy⟩ := K
  obtain ⟨p, e, R, s, m, args, below, meth, c, A, H0, Q⟩ := Γ
  obtain ⟨z, k9, n9, L⟩ := ω
  obtain ⟨⟨hx, hb, hml, hown, hts⟩, hrt, hlk, ⟨hK, hEv⟩, hA, hR, hmn, hE⟩ := hC
  intro H locs ls hz hW hS hl
  exact lv_icmp_lt hx hb hd ht (fun h => kt h H locs ls hz hW hS hl) (fun h => kf h H locs ls hz hW hS hl)
theorem g_if_lt (hC : gC K Γ cc nL own mn d mc ms rt Po) {off : Int} {tgt : Nat} {x : Int32} (hd : decode cc pc = .ok (.ifCond .lt off, 3)) (kt : x < 0 → G K Γ ω σ tgt ll r) (kf : ¬ x < 0 → G K Γ ω σ n ll r) (ht : (pc : Int) + off = (tgt : Int) := by decide) (hn : n = pc + 3 := by rfl) : G K Γ ω σ pc ll (.int x :: r) := by
  subst hn
  obtain ⟨l, D, cy⟩ := K
  obtain ⟨p, e, R, s, m, args, below, meth, c, A, H0, Q⟩ := Γ
  obtain ⟨z, k9, n9, L⟩ := ω
  obtain ⟨⟨hx, hb, hml, hown, hts⟩, hrt, hlk, ⟨hK, hEv⟩, hA, hR, hmn, hE⟩ := hC
  intro H locs ls hz hW hS hl
  exact lv_if_lt hx hb hd ht (fun h => kt h H locs ls hz hW hS hl) (fun h => kf h H locs ls hz hW hS hl)
theorem g_icmp_ltN (hC : gC K Γ cc nL own mn d mc ms rt Po) {off : Int} {tgt : Nat} {a b : Nat} (ha : a < 2 ^ 31) (hb9 : b < 2 ^ 31) (hd : decode cc pc = .ok (.if_icmp .lt off, 3)) (kt : a < b → G K Γ ω σ tgt ll r) (kf : b ≤ a → G K Γ ω σ n ll r) (ht : (pc : Int) + off = (tgt : Int) := by decide) (hn : n = pc + 3 := by rfl) : G K Γ ω σ pc ll (.int (nI b) :: .int (nI a) :: r) := by
  subst hn
  obtain ⟨l, D, cy⟩ := K
  obtain ⟨p, e, R, s, m, args, below, meth, c, A, H0, Q⟩ := Γ
  obtain ⟨z, k9, n9, L⟩ := ω
  obtain ⟨⟨hx, hb, hml, hown, hts⟩, hrt, hlk, ⟨hK, hEv⟩, hA, hR, hmn, hE⟩ := hC
  intro H locs ls hz hW hS hl
  exact lv_icmp_lt hx hb hd ht (fun h => kt ((nI_ltI ha hb9).mp h) H locs ls hz hW hS hl) (fun h => kf (Nat.not_lt.mp (fun q => h ((nI_ltI ha hb9).mpr q))) H locs ls hz hW hS hl)
theorem g_icmp_ge (hC : gC K Γ cc nL own mn d mc ms rt Po) {off : Int} {tgt : Nat} {x y : Int32} (hd : decode cc pc = .ok (.if_icmp .ge off, 3)) (kt : y ≤ x → G K Γ ω σ tgt ll r) (kf : ¬ y ≤ x → G K Γ ω σ n ll r) (ht : (pc : Int) + off = (tgt : Int) := by decide) (hn : n = pc + 3 := by rfl) : G K Γ ω σ pc ll (.int y :: .int x :: r) := by
  subst hn
  obtain ⟨l, D, cy⟩ := K
  obtain ⟨p, e, R, s, m, args, below, meth, c, A, H0, Q⟩ := Γ
  obtain ⟨z, k9, n9, L⟩ := ω
  obtain ⟨⟨hx, hb, hml, hown, hts⟩, hrt, hlk, ⟨hK, hEv⟩, hA, hR, hmn, hE⟩ := hC
  intro H locs ls hz hW hS hl
  exact lv_icmp_ge hx hb hd ht (fun h => kt h H locs ls hz hW hS hl) (fun h => kf h H locs ls hz hW hS hl)
theorem g_if_ge (hC : gC K Γ cc nL own mn d mc ms rt Po) {off : Int} {tgt : Nat} {x : Int32} (hd : decode cc pc = .ok (.ifCond .ge off, 3)) (kt : 0 ≤ x → G K Γ ω σ tgt ll r) (kf : ¬ 0 ≤ x → G K Γ ω σ n ll r) (ht : (pc : Int) + off = (tgt : Int) := by decide) (hn : n = pc + 3 := by rfl) : G K Γ ω σ pc ll (.int x :: r) := by
  subst hn
  obtain ⟨l, D, cy⟩ := K
  obtain ⟨p, e, R, s, m, args, below, meth, c, A, H0, Q⟩ := Γ
  obtain ⟨z, k9, n9, L⟩ := ω
  obtain ⟨⟨hx, hb, hml, hown, hts⟩, hrt, hlk, ⟨hK, hEv⟩, hA, hR, hmn, hE⟩ := hC
  intro H locs ls hz hW hS hl
  exact lv_if_ge hx hb hd ht (fun h => kt h H locs ls hz hW hS hl) (fun h => kf h H locs ls hz hW hS hl)
theorem g_icmp_geN (hC : gC K Γ cc nL own mn d mc ms rt Po) {off : Int} {tgt : Nat} {a b : Nat} (ha : a < 2 ^ 31) (hb9 : b < 2 ^ 31) (hd : decode cc pc = .ok (.if_icmp .ge off, 3)) (kt : b ≤ a → G K Γ ω σ tgt ll r) (kf : a < b → G K Γ ω σ n ll r) (ht : (pc : Int) + off = (tgt : Int) := by decide) (hn : n = pc + 3 := by rfl) : G K Γ ω σ pc ll (.int (nI b) :: .int (nI a) :: r) := by
  subst hn
  obtain ⟨l, D, cy⟩ := K
  obtain ⟨p, e, R, s, m, args, below, meth, c, A, H0, Q⟩ := Γ
  obtain ⟨z, k9, n9, L⟩ := ω
  obtain ⟨⟨hx, hb, hml, hown, hts⟩, hrt, hlk, ⟨hK, hEv⟩, hA, hR, hmn, hE⟩ := hC
  intro H locs ls hz hW hS hl
  exact lv_icmp_ge hx hb hd ht (fun h => kt ((nI_leI hb9 ha).mp h) H locs ls hz hW hS hl) (fun h => kf (Nat.not_le.mp (fun q => h ((nI_leI hb9 ha).mpr q))) H locs ls hz hW hS hl)
theorem g_icmp_gt (hC : gC K Γ cc nL own mn d mc ms rt Po) {off : Int} {tgt : Nat} {x y : Int32} (hd : decode cc pc = .ok (.if_icmp .gt off, 3)) (kt : y < x → G K Γ ω σ tgt ll r) (kf : ¬ y < x → G K Γ ω σ n ll r) (ht : (pc : Int) + off = (tgt : Int) := by decide) (hn : n = pc + 3 := by rfl) : G K Γ ω σ pc ll (.int y :: .int x :: r) := by
  subst hn
  obtain ⟨l, D, cy⟩ := K
  obtain ⟨p, e, R, s, m, args, below, meth, c, A, H0, Q⟩ := Γ
  obtain ⟨z, k9, n9, L⟩ := ω
  obtain ⟨⟨hx, hb, hml, hown, hts⟩, hrt, hlk, ⟨hK, hEv⟩, hA, hR, hmn, hE⟩ := hC
  intro H locs ls hz hW hS hl
  exact lv_icmp_gt hx hb hd ht (fun h => kt h H locs ls hz hW hS hl) (fun h => kf h H locs ls hz hW hS hl)
theorem g_if_gt (hC : gC K Γ cc nL own mn d mc ms rt Po) {off : Int} {tgt : Nat} {x : Int32} (hd : decode cc pc = .ok (.ifCond .gt off, 3)) (kt : 0 < x → G K Γ ω σ tgt ll r) (kf : ¬ 0 < x → G K Γ ω σ n ll r) (ht : (pc : Int) + off = (tgt : Int) := by decide) (hn : n = pc + 3 := by rfl) : G K Γ ω σ pc ll (.int x :: r) := by
  subst hn
  obtain ⟨l, D, cy⟩ := K
  obtain ⟨p, e, R, s, m, args, below, meth, c, A, H0, Q⟩ := Γ
  obtain ⟨z, k9, n9, L⟩ := ω
  obtain ⟨⟨hx, hb, hml, hown, hts⟩, hrt, hlk, ⟨hK, hEv⟩, hA, hR, hmn, hE⟩ := hC
  intro H locs ls hz hW hS hl
  exact lv_if_gt hx hb hd ht (fun h => kt h H locs ls hz hW hS hl) (fun h => kf h H locs ls hz hW hS hl)
theorem g_icmp_gtN (hC : gC K Γ cc nL own mn d mc ms rt Po) {off : Int} {tgt : Nat} {a b : Nat} (ha : a < 2 ^ 31) (hb9 : b < 2 ^ 31) (hd : decode cc pc = .ok (.if_icmp .gt off, 3)) (kt : b < a → G K Γ ω σ tgt ll r) (kf : a ≤ b → G K Γ ω σ n ll r) (ht : (pc : Int) + off = (tgt : Int) := by decide) (hn : n = pc + 3 := by rfl) : G K Γ ω σ pc ll (.int (nI b) :: .int (nI a) :: r) := by
  subst hn
  obtain ⟨l, D, cy⟩ := K
  obtain ⟨p, e, R, s, m, args, below, meth, c, A, H0, Q⟩ := Γ
  obtain ⟨z, k9, n9, L⟩ := ω
  obtain ⟨⟨hx, hb, hml, hown, hts⟩, hrt, hlk, ⟨hK, hEv⟩, hA, hR, hmn, hE⟩ := hC
  intro H locs ls hz hW hS hl
  exact lv_icmp_gt hx hb hd ht (fun h => kt ((nI_ltI hb9 ha).mp h) H locs ls hz hW hS hl) (fun h => kf (Nat.not_lt.mp (fun q => h ((nI_ltI hb9 ha).mpr q))) H locs ls hz hW hS hl)
theorem g_icmp_le (hC : gC K Γ cc nL own mn d mc ms rt Po) {off : Int} {tgt : Nat} {x y : Int32} (hd : decode cc pc = .ok (.if_icmp .le off, 3)) (kt : x ≤ y → G K Γ ω σ tgt ll r) (kf : ¬ x ≤ y → G K Γ ω σ n ll r) (ht : (pc : Int) + off = (tgt : Int) := by decide) (hn : n = pc + 3 := by rfl) : G K Γ ω σ pc ll (.int y :: .int x :: r) := by
  subst hn
  obtain ⟨l, D, cy⟩ := K
  obtain ⟨p, e, R, s, m, args, below, meth, c, A, H0, Q⟩ := Γ
  obtain ⟨z, k9, n9, L⟩ := ω
  obtain ⟨⟨hx, hb, hml, hown, hts⟩, hrt, hlk, ⟨hK, hEv⟩, hA, hR, hmn, hE⟩ := hC
  intro H locs ls hz hW hS hl
  exact lv_icmp_le hx hb hd ht (fun h => kt h H locs ls hz hW hS hl) (fun h => kf h H locs ls hz hW hS hl)
theorem g_if_le (hC : gC K Γ cc nL own mn d mc ms rt Po) {off : Int} {tgt : Nat} {x : Int32} (hd : decode cc pc = .ok (.ifCond .le off, 3)) (kt : x ≤ 0 → G K Γ ω σ tgt ll r) (kf : ¬ x ≤ 0 → G K Γ ω σ n ll r) (ht : (pc : Int) + off = (tgt : Int) := by decide) (hn : n = pc + 3 := by rfl) : G K Γ ω σ pc ll (.int x :: r) := by
  subst hn
  obtain ⟨l, D, cy⟩ := K
  obtain ⟨p, e, R, s, m, args, below, meth, c, A, H0, Q⟩ := Γ
  obtain ⟨z, k9, n9, L⟩ := ω
  obtain ⟨⟨hx, hb, hml, hown, hts⟩, hrt, hlk, ⟨hK, hEv⟩, hA, hR, hmn, hE⟩ := hC
  intro H locs ls hz hW hS hl
  exact lv_if_le hx hb hd ht (fun h => kt h H locs ls hz hW hS hl) (fun h => kf h H locs ls hz hW hS hl)
theorem g_icmp_leN (hC : gC K Γ cc nL own mn d mc ms rt Po) {off : Int} {tgt : Nat} {a b : Nat} (ha : a < 2 ^ 31) (hb9 : b < 2 ^ 31) (hd : decode cc pc = .ok (.if_icmp .le off, 3)) (kt : a ≤ b → G K Γ ω σ tgt ll r) (kf : b < a → G K Γ ω σ n ll r) (ht : (pc : Int) + off = (tgt : Int) := by decide) (hn : n = pc + 3 := by rfl) : G K Γ ω σ pc ll (.int (nI b) :: .int (nI a) :: r) := by
  subst hn
  obtain ⟨l, D, cy⟩ := K
  obtain ⟨p, e, R, s, m, args, below, meth, c, A, H0, Q⟩ := Γ
  obtain ⟨z, k9, n9, L⟩ := ω
  obtain ⟨⟨hx, hb, hml, hown, hts⟩, hrt, hlk, ⟨hK, hEv⟩, hA, hR, hmn, hE⟩ := hC
  intro H locs ls hz hW hS hl
  exact lv_icmp_le hx hb hd ht (fun h => kt ((nI_leI ha hb9).mp h) H locs ls hz hW hS hl) (fun h => kf (Nat.not_le.mp (fun q => h ((nI_leI ha hb9).mpr q))) H locs ls hz hW hS hl)
theorem g_goto (hC : gC K Γ cc nL own mn d mc ms rt Po) {off : Int} (hd : decode cc pc = .ok (.goto off, 3)) (k : G K Γ ω σ n ll r) (ht : (pc : Int) + off = (n : Int) := by decide) : G K Γ ω σ pc ll r := by
  obtain ⟨l, D, cy⟩ := K
  obtain ⟨p, e, R, s, m, args, below, meth, c, A, H0, Q⟩ := Γ
  obtain ⟨z, k9, n9, L⟩ := ω
  obtain ⟨⟨hx, hb, hml, hown, hts⟩, hrt, hlk, ⟨hK, hEv⟩, hA, hR, hmn, hE⟩ := hC
  intro H locs ls hz hW hS hl
  exact lv_goto hx hb hd ht (k H locs ls hz hW hS hl)
theorem g_cmp_c (x y : Int64) : lg_cmp x y = 0 ∧ x = y ∨ lg_cmp x y = -1 ∧ x < y ∨ lg_cmp x y = 1 ∧ y < x := by
  simp only [lg_cmp]
  by_cases h1 : x < y
  · have : ¬ y < x := fun h => by rw [Int64.lt_iff_toInt_lt] at h h1; omega
    exact Or.inr (Or.inl ⟨by rw [if_neg this, if_neg (fun e => by rw [e] at h1; exact absurd h1 Int64.lt_irrefl)], h1⟩)
  · by_cases h2 : x = y
    · simp [h2]
    · have h3 : y < x := by
        rw [Int64.lt_iff_toInt_lt] at h1 ⊢
        have : x.toInt ≠ y.toInt := fun e => h2 (Int64.toInt_inj.mp e)
        omega
      simp [h1, h2, h3]
theorem g_lcmp_eq (hC : gC K Γ cc nL own mn d mc ms rt Po) {off : Int} {tgt : Nat} {x y : Int64} (hd0 : decode cc pc = .ok (.lcmp, 1)) (hd : decode cc (pc + 1) = .ok (.ifCond .eq off, 3)) (kt : x = y → G K Γ ω σ tgt ll r) (kf : ¬ x = y → G K Γ ω σ n ll r) (ht : ((pc + 1 : Nat) : Int) + off = (tgt : Int) := by decide) (hn : n = pc + 4 := by rfl) : G K Γ ω σ pc ll (.long y :: .long x :: r) := by
  subst hn
  obtain ⟨l, D, cy⟩ := K
  obtain ⟨p, e, R, s, m, args, below, meth, c, A, H0, Q⟩ := Γ
  obtain ⟨z, k9, n9, L⟩ := ω
  obtain ⟨⟨hx, hb, hml, hown, hts⟩, hrt, hlk, ⟨hK, hEv⟩, hA, hR, hmn, hE⟩ := hC
  intro H locs ls hz hW hS hl
  refine W.lcmp hx hb hd0 (lv_if_eq hx hb hd ht (fun h => kt ?_ H locs ls hz hW hS hl) (fun h => kf ?_ H locs ls hz hW hS hl)) <;> rcases g_cmp_c x y with ⟨e, q⟩ | ⟨e, q⟩ | ⟨e, q⟩ <;> rw [e] at h <;> first | exact absurd h (by decide) | exact q | exact absurd (show _ from by decide) h | (rw [Int64.lt_iff_toInt_lt] at q; first | (rw [Int64.lt_iff_toInt_lt]; omega) | (rw [Int64.le_iff_toInt_le]; omega) | (intro z9; rw [Int64.lt_iff_toInt_lt] at z9; omega) | (intro z9; rw [Int64.le_iff_toInt_le] at z9; omega) | (intro z9; rw [z9] at q; omega)) | (rw [q]; first | exact Int64.le_refl _ | exact Int64.lt_irrefl) | (intro z9; exact absurd z9 (by rw [q]; first | exact Int64.lt_irrefl))
theorem g_lcmp_ne (hC : gC K Γ cc nL own mn d mc ms rt Po) {off : Int} {tgt : Nat} {x y : Int64} (hd0 : decode cc pc = .ok (.lcmp, 1)) (hd : decode cc (pc + 1) = .ok (.ifCond .ne off, 3)) (kt : ¬ x = y → G K Γ ω σ tgt ll r) (kf : x = y → G K Γ ω σ n ll r) (ht : ((pc + 1 : Nat) : Int) + off = (tgt : Int) := by decide) (hn : n = pc + 4 := by rfl) : G K Γ ω σ pc ll (.long y :: .long x :: r) := by
  subst hn
  obtain ⟨l, D, cy⟩ := K
  obtain ⟨p, e, R, s, m, args, below, meth, c, A, H0, Q⟩ := Γ
  obtain ⟨z, k9, n9, L⟩ := ω
  obtain ⟨⟨hx, hb, hml, hown, hts⟩, hrt, hlk, ⟨hK, hEv⟩, hA, hR, hmn, hE⟩ := hC
  intro H locs ls hz hW hS hl
  refine W.lcmp hx hb hd0 (lv_if_ne hx hb hd ht (fun h => kt ?_ H locs ls hz hW hS hl) (fun h => kf ?_ H locs ls hz hW hS hl)) <;> rcases g_cmp_c x y with ⟨e, q⟩ | ⟨e, q⟩ | ⟨e, q⟩ <;> rw [e] at h <;> first | exact absurd h (by decide) | exact q | exact absurd (show _ from by decide) h | (rw [Int64.lt_iff_toInt_lt] at q; first | (rw [Int64.lt_iff_toInt_lt]; omega) | (rw [Int64.le_iff_toInt_le]; omega) | (intro z9; rw [Int64.lt_iff_toInt_lt] at z9; omega) | (intro z9; rw [Int64.le_iff_toInt_le] at z9; omega) | (intro z9; rw [z9] at q; omega)) | (rw [q]; first | exact Int64.le_refl _ | exact Int64.lt_irrefl) | (intro z9; exact absurd z9 (by rw [q]; first | exact Int64.lt_irrefl))
theorem g_lcmp_lt (hC : gC K Γ cc nL own mn d mc ms rt Po) {off : Int} {tgt : Nat} {x y : Int64} (hd0 : decode cc pc = .ok (.lcmp, 1)) (hd : decode cc (pc + 1) = .ok (.ifCond .lt off, 3)) (kt : x < y → G K Γ ω σ tgt ll r) (kf : ¬ x < y → G K Γ ω σ n ll r) (ht : ((pc + 1 : Nat) : Int) + off = (tgt : Int) := by decide) (hn : n = pc + 4 := by rfl) : G K Γ ω σ pc ll (.long y :: .long x :: r) := by
  subst hn
  obtain ⟨l, D, cy⟩ := K
  obtain ⟨p, e, R, s, m, args, below, meth, c, A, H0, Q⟩ := Γ
  obtain ⟨z, k9, n9, L⟩ := ω
  obtain ⟨⟨hx, hb, hml, hown, hts⟩, hrt, hlk, ⟨hK, hEv⟩, hA, hR, hmn, hE⟩ := hC
  intro H locs ls hz hW hS hl
  refine W.lcmp hx hb hd0 (lv_if_lt hx hb hd ht (fun h => kt ?_ H locs ls hz hW hS hl) (fun h => kf ?_ H locs ls hz hW hS hl)) <;> rcases g_cmp_c x y with ⟨e, q⟩ | ⟨e, q⟩ | ⟨e, q⟩ <;> rw [e] at h <;> first | exact absurd h (by decide) | exact q | exact absurd (show _ from by decide) h | (rw [Int64.lt_iff_toInt_lt] at q; first | (rw [Int64.lt_iff_toInt_lt]; omega) | (rw [Int64.le_iff_toInt_le]; omega) | (intro z9; rw [Int64.lt_iff_toInt_lt] at z9; omega) | (intro z9; rw [Int64.le_iff_toInt_le] at z9; omega) | (intro z9; rw [z9] at q; omega)) | (rw [q]; first | exact Int64.le_refl _ | exact Int64.lt_irrefl) | (intro z9; exact absurd z9 (by rw [q]; first | exact Int64.lt_irrefl))
theorem g_lcmp_ge (hC : gC K Γ cc nL own mn d mc ms rt Po) {off : Int} {tgt : Nat} {x y : Int64} (hd0 : decode cc pc = .ok (.lcmp, 1)) (hd : decode cc (pc + 1) = .ok (.ifCond .ge off, 3)) (kt : y ≤ x → G K Γ ω σ tgt ll r) (kf : ¬ y ≤ x → G K Γ ω σ n ll r) (ht : ((pc + 1 : Nat) : Int) + off = (tgt : Int) := by decide) (hn : n = pc + 4 := by rfl) : G K Γ ω σ pc ll (.long y :: .long x :: r) := by
  subst hn
  obtain ⟨l, D, cy⟩ := K
  obtain ⟨p, e, R, s, m, args, below, meth, c, A, H0, Q⟩ := Γ
  obtain ⟨z, k9, n9, L⟩ := ω
  obtain ⟨⟨hx, hb, hml, hown, hts⟩, hrt, hlk, ⟨hK, hEv⟩, hA, hR, hmn, hE⟩ := hC
  intro H locs ls hz hW hS hl
  refine W.lcmp hx hb hd0 (lv_if_ge hx hb hd ht (fun h => kt ?_ H locs ls hz hW hS hl) (fun h => kf ?_ H locs ls hz hW hS hl)) <;> rcases g_cmp_c x y with ⟨e, q⟩ | ⟨e, q⟩ | ⟨e, q⟩ <;> rw [e] at h <;> first | exact absurd h (by decide) | exact q | exact absurd (show _ from by decide) h | (rw [Int64.lt_iff_toInt_lt] at q; first | (rw [Int64.lt_iff_toInt_lt]; omega) | (rw [Int64.le_iff_toInt_le]; omega) | (intro z9; rw [Int64.lt_iff_toInt_lt] at z9; omega) | (intro z9; rw [Int64.le_iff_toInt_le] at z9; omega) | (intro z9; rw [z9] at q; omega)) | (rw [q]; first | exact Int64.le_refl _ | exact Int64.lt_irrefl) | (intro z9; exact absurd z9 (by rw [q]; first | exact Int64.lt_irrefl))
theorem g_lcmp_gt (hC : gC K Γ cc nL own mn d mc ms rt Po) {off : Int} {tgt : Nat} {x y : Int64} (hd0 : decode cc pc = .ok (.lcmp, 1)) (hd : decode cc (pc + 1) = .ok (.ifCond .gt off, 3)) (kt : y < x → G K Γ ω σ tgt ll r) (kf : ¬ y < x → G K Γ ω σ n ll r) (ht : ((pc + 1 : Nat) : Int) + off = (tgt : Int) := by decide) (hn : n = pc + 4 := by rfl) : G K Γ ω σ pc ll (.long y :: .long x :: r) := by
  subst hn
  obtain ⟨l, D, cy⟩ := K
  obtain ⟨p, e, R, s, m, args, below, meth, c, A, H0, Q⟩ := Γ
  obtain ⟨z, k9, n9, L⟩ := ω
  obtain ⟨⟨hx, hb, hml, hown, hts⟩, hrt, hlk, ⟨hK, hEv⟩, hA, hR, hmn, hE⟩ := hC
  intro H locs ls hz hW hS hl
  refine W.lcmp hx hb hd0 (lv_if_gt hx hb hd ht (fun h => kt ?_ H locs ls hz hW hS hl) (fun h => kf ?_ H locs ls hz hW hS hl)) <;> rcases g_cmp_c x y with ⟨e, q⟩ | ⟨e, q⟩ | ⟨e, q⟩ <;> rw [e] at h <;> first | exact absurd h (by decide) | exact q | exact absurd (show _ from by decide) h | (rw [Int64.lt_iff_toInt_lt] at q; first | (rw [Int64.lt_iff_toInt_lt]; omega) | (rw [Int64.le_iff_toInt_le]; omega) | (intro z9; rw [Int64.lt_iff_toInt_lt] at z9; omega) | (intro z9; rw [Int64.le_iff_toInt_le] at z9; omega) | (intro z9; rw [z9] at q; omega)) | (rw [q]; first | exact Int64.le_refl _ | exact Int64.lt_irrefl) | (intro z9; exact absurd z9 (by rw [q]; first | exact Int64.lt_irrefl))
theorem g_lcmp_le (hC : gC K Γ cc nL own mn d mc ms rt Po) {off : Int} {tgt : Nat} {x y : Int64} (hd0 : decode cc pc = .ok (.lcmp, 1)) (hd : decode cc (pc + 1) = .ok (.ifCond .le off, 3)) (kt : x ≤ y → G K Γ ω σ tgt ll r) (kf : ¬ x ≤ y → G K Γ ω σ n ll r) (ht : ((pc + 1 : Nat) : Int) + off = (tgt : Int) := by decide) (hn : n = pc + 4 := by rfl) : G K Γ ω σ pc ll (.long y :: .long x :: r) := by
  subst hn
  obtain ⟨l, D, cy⟩ := K
  obtain ⟨p, e, R, s, m, args, below, meth, c, A, H0, Q⟩ := Γ
  obtain ⟨z, k9, n9, L⟩ := ω
  obtain ⟨⟨hx, hb, hml, hown, hts⟩, hrt, hlk, ⟨hK, hEv⟩, hA, hR, hmn, hE⟩ := hC
  intro H locs ls hz hW hS hl
  refine W.lcmp hx hb hd0 (lv_if_le hx hb hd ht (fun h => kt ?_ H locs ls hz hW hS hl) (fun h => kf ?_ H locs ls hz hW hS hl)) <;> rcases g_cmp_c x y with ⟨e, q⟩ | ⟨e, q⟩ | ⟨e, q⟩ <;> rw [e] at h <;> first | exact absurd h (by decide) | exact q | exact absurd (show _ from by decide) h | (rw [Int64.lt_iff_toInt_lt] at q; first | (rw [Int64.lt_iff_toInt_lt]; omega) | (rw [Int64.le_iff_toInt_le]; omega) | (intro z9; rw [Int64.lt_iff_toInt_lt] at z9; omega) | (intro z9; rw [Int64.le_iff_toInt_le] at z9; omega) | (intro z9; rw [z9] at q; omega)) | (rw [q]; first | exact Int64.le_refl _ | exact Int64.lt_irrefl) | (intro z9; exact absurd z9 (by rw [q]; first | exact Int64.lt_irrefl))
end GR
/-- what a site of the code links, of the tables' words -/
def gFld (own : String) (index ci k : Nat) : Prop := ∃ (C : String) (T : u_T) (N : Nat), vwCl[ci]? = some (C, T, N) ∧ k < N ∧ (∀ w ∈ u_ws C T N, w ∈ gTs) ∧ Cond.fieldLink own index (T k).1 (T k).2.1 (T k).2.2.1 ∈ gTs
def gPut (own : String) (index ci k : Nat) (fin : Bool) (ty : FieldType) : Prop := ∃ (C : String) (T : u_T) (N : Nat) (ty0 : Nat → FieldType), vwCl[ci]? = some (C, T, N) ∧ k < N ∧ (∀ w ∈ u_ws C T N, w ∈ gTs) ∧ Cond.fieldLink own index (T k).1 (T k).2.1 (T k).2.2.1 ∈ gTs ∧ (∀ k, k < N → parseFieldDescriptor (T k).2.2.1 = some (ty0 k)) ∧ (∀ a, a < N → ∀ b, b < N → a ≠ b → (T a).2.1 ≠ (T b).2.1) ∧ (T k).2.2.2 = fin ∧ parseFieldDescriptor (T k).2.2.1 = some ty ∧ (T k).1 = C
def gNew (own : String) (index ci : Nat) (N : Nat) (fs : List Value) : Prop := ∃ (C : String) (T : u_T) (ty0 : Nat → FieldType), vwCl[ci]? = some (C, T, N) ∧ (∀ w ∈ u_ws C T N, w ∈ gTs) ∧ (∀ k, k < N → parseFieldDescriptor (T k).2.2.1 = some (ty0 k)) ∧ Cond.classLink own index C ∈ gTs ∧ Cond.instantiable C N ∈ gTs ∧ Cond.initialized C ∈ gTs ∧ (∀ j, j < N → defaultValue (ty0 j) = vp_V fs j)
def gVir (own : String) (index : Nat) (C : String) (y : MethodName) (b : ByteArray) (nL : Nat) (rt : Option FieldType) (n : Nat) : Prop := Cond.methodLink own index y ∈ gTs ∧ Cond.instanceMethod y ∈ gTs ∧ Cond.selects C y y ∈ gTs ∧ Cond.initialized y.cls ∈ gTs ∧ Cond.code y b nL rt ∈ gTs ∧ gYd y n
def gSta (own : String) (index : Nat) (y : MethodName) (b : ByteArray) (nL : Nat) (rt : Option FieldType) (n : Nat) : Prop := Cond.methodLink own index y ∈ gTs ∧ Cond.static y ∈ gTs ∧ Cond.initialized y.cls ∈ gTs ∧ Cond.code y b nL rt ∈ gTs ∧ gYd y n
def gIni (own : String) (index : Nat) (y : MethodName) (b : ByteArray) (nL : Nat) (n : Nat) : Prop := Cond.methodLink own index y ∈ gTs ∧ Cond.instanceMethod y ∈ gTs ∧ Cond.initialized y.cls ∈ gTs ∧ Cond.code y b nL none ∈ gTs ∧ gYd y n ∧ y.name = "<init>"
def gIniN (own : String) (index : Nat) (y : MethodName) (host : String) (b : ByteArray) (nL : Nat) (n : Nat) : Prop := (own, index, y, host) ∈ nestL ∧ Cond.instanceMethod y ∈ gTs ∧ Cond.initialized y.cls ∈ gTs ∧ Cond.code y b nL none ∈ gTs ∧ gYd y n ∧ y.name = "<init>"
def gVirN (own : String) (index : Nat) (C : String) (y : MethodName) (host : String) (b : ByteArray) (nL : Nat) (rt : Option FieldType) (n : Nat) : Prop := (own, index, y, host) ∈ nestL ∧ Cond.instanceMethod y ∈ gTs ∧ Cond.selects C y y ∈ gTs ∧ Cond.initialized y.cls ∈ gTs ∧ Cond.code y b nL rt ∈ gTs ∧ gYd y n
/-- arrays as cells -/
abbrev iA (K : GK) (n : Nat) (f : Nat → Int32) : va_E := .inl (K.2.2 0, n, .inl f)
abbrev lA (K : GK) (n : Nat) (f : Nat → Int64) : va_E := .inl (K.2.2 1, n, .inr (.inl f))
abbrev cA (K : GK) (n : Nat) (f : Nat → Int32) : va_E := .inl (K.2.2 2, n, .inl f)
abbrev rA (K : GK) (n : Nat) (f : Nat → Option Nat) : va_E := .inl (K.2.2 3, n, .inr (.inr (.inr (.inr f))))
abbrev dA (K : GK) (n : Nat) (f : Nat → UInt64) : va_E := .inl (K.2.2 4, n, .inr (.inr (.inr (.inl f))))
theorem g_pk {L : List Nat} {σ : GS} {a : Nat} {e : va_E} (ha : a ∈ L) (he : σ a = e) : ∃ q : Nat, (va_pl L σ)[q]? = some (a, e) := by
  obtain ⟨k, hk⟩ := va_pl_get (X := []) (f := σ) ha
  exact ⟨k, by rw [← he]; exact hk⟩
theorem g_pk_up {A : Nat → Prop} {L : List Nat} {σ : GS} {a q : Nat} {e e1 : va_E} (hD : va_D A (va_pl L σ)) (ha : a ∈ L) (he : σ a = e) (hq : (va_pl L σ)[q]? = some (a, e)) : (va_pl L σ).set q (a, e1) = va_pl L (va_up σ a e1) :=
  va_pl_set (X := []) hD ha (by rw [he]; exact hq)
theorem gW.up {D : va_G} {A : Nat → Prop} {L : List Nat} {σ : GS} {H H1 : Heap} {a : Nat} {e : va_E} (h : gW D A L σ H) (ha : a ∈ L) (he : va_at D vwCl (a, e) H1) (ho : ∀ q : Nat, q ≠ a → H1[q]? = H[q]?) : gW D A L (va_up σ a e) H1 := by
  obtain ⟨q, hq⟩ := g_pk ha (rfl : σ a = σ a)
  rw [gW, ← g_pk_up (e1 := e) h.2 ha rfl hq]
  exact ⟨h.1.set h.2 hq he ho, h.2.set hq⟩
theorem gW.A {D : va_G} {A : Nat → Prop} {L : List Nat} {σ : GS} {H : Heap} {a : Nat} (h : gW D A L σ H) (ha : a ∈ L) : A a := by
  obtain ⟨q, hq⟩ := g_pk ha (rfl : σ a = σ a)
  exact h.2.2 q _ hq
theorem gW.at {D : va_G} {A : Nat → Prop} {L : List Nat} {σ : GS} {H : Heap} {a : Nat} (h : gW D A L σ H) (ha : a ∈ L) : va_at D vwCl (a, σ a) H := by
  obtain ⟨q, hq⟩ := g_pk ha (rfl : σ a = σ a)
  exact h.1 q _ hq
theorem gW.lt {D : va_G} {A : Nat → Prop} {L : List Nat} {σ : GS} {H : Heap} {a : Nat} (h : gW D A L σ H) (ha : a ∈ L) : a < H.size := (h.at ha).lt
theorem gW.weaken {D : va_G} {A B : Nat → Prop} {L : List Nat} {σ : GS} {H : Heap} (h : gW D A L σ H) (hB : ∀ a ∈ L, B a) : gW D B L σ H := by
  refine ⟨h.1, h.2.weaken (fun k q hk _ => ?_)⟩
  obtain ⟨b, hb, rfl⟩ := List.mem_map.mp (List.mem_of_getElem? hk)
  exact hB b hb
theorem gW.push {D : va_G} {A : Nat → Prop} {L : List Nat} {σ : GS} {H H1 : Heap} {e : va_E} (h : gW D A L σ H) (hA : A H.size) (he : va_at D vwCl (H.size, e) H1) (ho : ∀ q : Nat, q < H.size → H1[q]? = H[q]?) : gW D A (L ++ [H.size]) (va_up σ H.size e) H1 := by
  have hn : H.size ∉ L := fun q => absurd (h.lt q) (Nat.lt_irrefl _)
  rw [gW, ← va_pl_push hn]
  refine ⟨va_P.app (h.1.kept (fun k q hk => ho _ ((h.1 k q hk).lt))) (fun k q hk => ?_), h.2.push h.1 rfl hA⟩
  have hz : k < 1 := (List.getElem?_eq_some_iff.mp hk).1
  rw [show k = 0 by omega] at hk
  cases hk
  exact he
theorem gW.kept {D : va_G} {A : Nat → Prop} {L : List Nat} {σ : GS} {H H1 : Heap} (h : gW D A L σ H) (ho : ∀ q : Nat, q ∈ L → H1[q]? = H[q]?) : gW D A L σ H1 := by
  refine ⟨h.1.kept (fun k q hk => ?_), h.2⟩
  obtain ⟨b, hb, rfl⟩ := List.mem_map.mp (List.mem_of_getElem? hk)
  exact ho b hb
section GS1
variable {K : GK} {Γ : GX} {cc : ByteArray} {nL d mc ms : Nat} {own mn : String} {rt : Option FieldType} {Po : GP} {ω : GO} {σ : GS} {pc n : Nat} {ll ll1 : List (Option Value)} {r : List Value} {rest : List Value}
theorem g_getf (hC : gC K Γ cc nL own mn d mc ms rt Po) {index ci k a : Nat} {fs : List Value} {v : Value} (hF : gFld own index ci k) (ha : a ∈ ω.2.2.2) (hσ : σ a = .inr (ci, fs)) (hv : fs[k]? = some v) (hd : decode cc pc = .ok (.getfield index, 3)) (kk : G K Γ ω σ n ll (v :: r)) (hn : n = pc + 3 := by rfl) : G K Γ ω σ pc ll (.ref a :: r) := by
  subst hn
  obtain ⟨l, D, cy⟩ := K
  obtain ⟨p, e, R, s, m, args, below, meth, c, A, H0, Q⟩ := Γ
  obtain ⟨z, k9, n9, L⟩ := ω
  obtain ⟨⟨hx, hb, hml, hown, hts⟩, hrt, hlk, ⟨hK, hEv⟩, hA, hR, hmn, hE⟩ := hC
  intro H locs ls hz hW hS hl
  obtain ⟨C, T, N, hc, hk, hin, hlink⟩ := hF
  obtain ⟨q0, hq⟩ := g_pk ha hσ
  exact va_get (D := D) (C := C) (T := T) (N := N) hx hb hts hin hown hK hW.1 q0 hq hc k hk (hts _ hlink) (fun _ h9 => h9) hv hd (kk H locs ls hz hW hS hl)
theorem g_putf (hC : gC K Γ cc nL own mn d mc ms rt Po) {index ci k a : Nat} {fs : List Value} {v : Value} {ty : FieldType} (hF : gPut own index ci k false ty)  (ha : a ∈ ω.2.2.2) (hσ : σ a = .inr (ci, fs)) (hd : decode cc pc = .ok (.putfield index, 3)) (kk : G K Γ ω (va_up σ a (.inr (ci, fs.set k v))) n ll r) (hl0 : k < fs.length := by exact Nat.le_of_ble_eq_true rfl) (hnv : narrow ty v = v := by rfl) (hfit : fits ty v = true := by rfl) (hn : n = pc + 3 := by rfl) : G K Γ ω σ pc ll (v :: .ref a :: r) := by
  subst hn
  obtain ⟨l, D, cy⟩ := K
  obtain ⟨p, e, R, s, m, args, below, meth, c, A, H0, Q⟩ := Γ
  obtain ⟨z, k9, n9, L⟩ := ω
  obtain ⟨⟨hx, hb, hml, hown, hts⟩, hrt, hlk, ⟨hK, hEv⟩, hA, hR, hmn, hE⟩ := hC
  intro H locs ls hz hW hS hl
  obtain ⟨C, T, N, ty0, hc, hk, hin, hlink, hty, hnm, hfin, hd0, hcl⟩ := hF
  have hap := va_apart (own := own) hts hin ty0 hty hnm hK hc
  have hat := hW.at ha
  rw [hσ] at hat
  obtain ⟨r1, h1, cell, q1, q2, q3, q4⟩ := hat
  have hr : r1 = (C, T, N) := Option.some.inj (h1.symm.trans hc)
  subst hr
  obtain ⟨hSl, hfc, kC, hkC, hkind⟩ := hK.1 ci _ hc
  obtain ⟨cf, kf, fi, f, hi, hsl⟩ := hSl k hk
  have hlay := hts _ (hin _ (u_in_lay hk))
  unfold u_lay at hlay
  rw [if_neg (by rw [hfin]; decide)] at hlay
  have hst := (u_facts hfc hkC (u_lays hts hin hk) hi).1
  have h6 := u_store hfc hkC hkind hlay hi hd0 hnv hfit
  refine W.putK hx hb (f := f) ⟨hown, hts _ hlink, ⟨_, _, _, hi⟩, hst⟩ (by rw [q2]; exact h6) q1 q3 (by rw [hsl]; exact k2_hasslot (q4 k hk)) rfl rfl hd fun H' e1 e2 e3 => ?_
  rw [hsl] at e1 ⊢
  exact kk H' _ ls (e2.trans hz) (hW.up ha ⟨_, hc, t_OB.to (V := updV (vp_V fs) k v) ⟨_, e1, q2, q3, t_set q4 hap hk v⟩ (fun j _ => vp_updV_set hl0 v j)⟩ e3) (hS.put e2 e3 (hW.A ha)) hl
theorem g_putF (hC : gC K Γ cc nL own mn d mc ms rt Po) {index ci k a : Nat} {fs : List Value} {v : Value} {ty : FieldType} (hF : gPut own index ci k true ty) (hmn0 : mn = "<init>") (hoC : ∀ C T N, vwCl[ci]? = some (C, T, N) → C = own) (ha : a ∈ ω.2.2.2) (hσ : σ a = .inr (ci, fs)) (hd : decode cc pc = .ok (.putfield index, 3)) (kk : G K Γ ω (va_up σ a (.inr (ci, fs.set k v))) n ll r) (hl0 : k < fs.length := by exact Nat.le_of_ble_eq_true rfl) (hnv : narrow ty v = v := by rfl) (hfit : fits ty v = true := by rfl) (hn : n = pc + 3 := by rfl) : G K Γ ω σ pc ll (v :: .ref a :: r) := by
  subst hn
  obtain ⟨l, D, cy⟩ := K
  obtain ⟨p, e, R, s, m, args, below, meth, c, A, H0, Q⟩ := Γ
  obtain ⟨z, k9, n9, L⟩ := ω
  obtain ⟨⟨hx, hb, hml, hown, hts⟩, hrt, hlk, ⟨hK, hEv⟩, hA, hR, hmn, hE⟩ := hC
  intro H locs ls hz hW hS hl
  obtain ⟨C, T, N, ty0, hc, hk, hin, hlink, hty, hnm, hfin, hd0, hcl⟩ := hF
  have hap := va_apart (own := own) hts hin ty0 hty hnm hK hc
  have hat := hW.at ha
  rw [hσ] at hat
  obtain ⟨r1, h1, cell, q1, q2, q3, q4⟩ := hat
  have hr : r1 = (C, T, N) := Option.some.inj (h1.symm.trans hc)
  subst hr
  obtain ⟨hSl, hfc, kC, hkC, hkind⟩ := hK.1 ci _ hc
  obtain ⟨cf, kf, fi, f, hi, hsl⟩ := hSl k hk
  have hlay := hts _ (hin _ (u_in_lay hk))
  unfold u_lay at hlay
  rw [if_pos hfin] at hlay
  have hst := (u_facts hfc hkC (u_lays hts hin hk) hi).1
  have hcf : m.cls = cf := by
    obtain ⟨_, _, c', _, _, _, -, -, hf', -, -, -, hown2, -⟩ := Cond.laysFinal_spec hlay
    have e1 : c' = cf := by have := hi.symm.trans hf'; simp at this; exact this.1.symm
    rw [hcl, hoC _ _ _ hc] at hown2
    rw [← e1]; exact Option.some.inj (hown.symm.trans hown2)
  have h6 := u_fits hfc hkC hkind (Or.inr hlay) hi hd0 hnv hfit
  refine W.putFinK hx hb hown (hts _ hlink) hi hst hcf (hmn.trans hmn0) (by rw [q2]; exact h6) q1 q3 (by rw [hsl]; exact k2_hasslot (q4 k hk)) rfl rfl hd fun H' e1 e2 e3 => ?_
  rw [hsl] at e1 ⊢
  exact kk H' _ ls (e2.trans hz) (hW.up ha ⟨_, hc, t_OB.to (V := updV (vp_V fs) k v) ⟨_, e1, q2, q3, t_set q4 hap hk v⟩ (fun j _ => vp_updV_set hl0 v j)⟩ e3) (hS.put e2 e3 (hW.A ha)) hl
theorem g_iald (hC : gC K Γ cc nL own mn d mc ms rt Po) {a N j : Nat} {f : Nat → Int32} {i : Int32} (ha : a ∈ ω.2.2.2) (hσ : σ a = iA K N f) (hi : i = nI j) (hj : j < N) (hN : N < 2 ^ 31) (hd : decode cc pc = .ok (.iaload, 1)) (kk : G K Γ ω σ n ll (.int (f j) :: r)) (hn : n = pc + 1 := by rfl) : G K Γ ω σ pc ll (.int i :: .ref a :: r) := by
  subst hn
  obtain ⟨l, D, cy⟩ := K
  obtain ⟨p, e, R, s, m, args, below, meth, c, A, H0, Q⟩ := Γ
  obtain ⟨z, k9, n9, L⟩ := ω
  obtain ⟨⟨hx, hb, hml, hown, hts⟩, hrt, hlk, ⟨hK, hEv⟩, hA, hR, hmn, hE⟩ := hC
  intro H locs ls hz hW hS hl
  subst hi
  obtain ⟨q0, hq⟩ := g_pk ha hσ
  exact va_iald hx hb hK hW.1 q0 0 hq rfl (vp_in_nI hj hN) hd (by rw [nI_clamp (Nat.lt_trans hj hN)]; exact kk H locs ls hz hW hS hl)
theorem g_cald (hC : gC K Γ cc nL own mn d mc ms rt Po) {a N j : Nat} {f : Nat → Int32} {i : Int32} (ha : a ∈ ω.2.2.2) (hσ : σ a = cA K N f) (hi : i = nI j) (hj : j < N) (hN : N < 2 ^ 31) (hd : decode cc pc = .ok (.caload, 1)) (kk : G K Γ ω σ n ll (.int (f j) :: r)) (hn : n = pc + 1 := by rfl) : G K Γ ω σ pc ll (.int i :: .ref a :: r) := by
  subst hn
  obtain ⟨l, D, cy⟩ := K
  obtain ⟨p, e, R, s, m, args, below, meth, c, A, H0, Q⟩ := Γ
  obtain ⟨z, k9, n9, L⟩ := ω
  obtain ⟨⟨hx, hb, hml, hown, hts⟩, hrt, hlk, ⟨hK, hEv⟩, hA, hR, hmn, hE⟩ := hC
  intro H locs ls hz hW hS hl
  subst hi
  obtain ⟨q0, hq⟩ := g_pk ha hσ
  exact va_cald hx hb hK hW.1 q0 2 hq rfl (vp_in_nI hj hN) hd (by rw [nI_clamp (Nat.lt_trans hj hN)]; exact kk H locs ls hz hW hS hl)
theorem g_lald (hC : gC K Γ cc nL own mn d mc ms rt Po) {a N j : Nat} {f : Nat → Int64} {i : Int32} (ha : a ∈ ω.2.2.2) (hσ : σ a = lA K N f) (hi : i = nI j) (hj : j < N) (hN : N < 2 ^ 31) (hd : decode cc pc = .ok (.laload, 1)) (kk : G K Γ ω σ n ll (.long (f j) :: r)) (hn : n = pc + 1 := by rfl) : G K Γ ω σ pc ll (.int i :: .ref a :: r) := by
  subst hn
  obtain ⟨l, D, cy⟩ := K
  obtain ⟨p, e, R, s, m, args, below, meth, c, A, H0, Q⟩ := Γ
  obtain ⟨z, k9, n9, L⟩ := ω
  obtain ⟨⟨hx, hb, hml, hown, hts⟩, hrt, hlk, ⟨hK, hEv⟩, hA, hR, hmn, hE⟩ := hC
  intro H locs ls hz hW hS hl
  subst hi
  obtain ⟨q0, hq⟩ := g_pk ha hσ
  exact va_lald hx hb hK hW.1 q0 1 hq rfl (vp_in_nI hj hN) hd (by rw [nI_clamp (Nat.lt_trans hj hN)]; exact kk H locs ls hz hW hS hl)
theorem g_dald (hC : gC K Γ cc nL own mn d mc ms rt Po) {a N j : Nat} {f : Nat → UInt64} {i : Int32} (ha : a ∈ ω.2.2.2) (hσ : σ a = dA K N f) (hi : i = nI j) (hj : j < N) (hN : N < 2 ^ 31) (hd : decode cc pc = .ok (.daload, 1)) (kk : G K Γ ω σ n ll (.double (f j) :: r)) (hn : n = pc + 1 := by rfl) : G K Γ ω σ pc ll (.int i :: .ref a :: r) := by
  subst hn
  obtain ⟨l, D, cy⟩ := K
  obtain ⟨p, e, R, s, m, args, below, meth, c, A, H0, Q⟩ := Γ
  obtain ⟨z, k9, n9, L⟩ := ω
  obtain ⟨⟨hx, hb, hml, hown, hts⟩, hrt, hlk, ⟨hK, hEv⟩, hA, hR, hmn, hE⟩ := hC
  intro H locs ls hz hW hS hl
  subst hi
  obtain ⟨q0, hq⟩ := g_pk ha hσ
  exact va_dald hx hb hK hW.1 q0 4 hq rfl (vp_in_nI hj hN) hd (by rw [nI_clamp (Nat.lt_trans hj hN)]; exact kk H locs ls hz hW hS hl)
theorem g_aald (hC : gC K Γ cc nL own mn d mc ms rt Po) {a N j v : Nat} {f : Nat → Option Nat} {i : Int32} (ha : a ∈ ω.2.2.2) (hσ : σ a = rA K N f) (hi : i = nI j) (hj : j < N) (hN : N < 2 ^ 31) (hv : f j = some v) (hd : decode cc pc = .ok (.aaload, 1)) (kk : G K Γ ω σ n ll (.ref v :: r)) (hn : n = pc + 1 := by rfl) : G K Γ ω σ pc ll (.int i :: .ref a :: r) := by
  subst hn
  obtain ⟨l, D, cy⟩ := K
  obtain ⟨p, e, R, s, m, args, below, meth, c, A, H0, Q⟩ := Γ
  obtain ⟨z, k9, n9, L⟩ := ω
  obtain ⟨⟨hx, hb, hml, hown, hts⟩, hrt, hlk, ⟨hK, hEv⟩, hA, hR, hmn, hE⟩ := hC
  intro H locs ls hz hW hS hl
  subst hi
  obtain ⟨q0, hq⟩ := g_pk ha hσ
  exact va_aldq hx hb hK hW.1 q0 3 hq rfl (vp_in_nI hj hN) hd (by rw [nI_clamp (Nat.lt_trans hj hN), hv]; exact kk H locs ls hz hW hS hl)
theorem g_iast (hC : gC K Γ cc nL own mn d mc ms rt Po) {a N j : Nat} {f : Nat → Int32} {i : Int32} {x : Int32}  (ha : a ∈ ω.2.2.2) (hσ : σ a = iA K N f) (hi : i = nI j) (hj : j < N) (hN : N < 2 ^ 31) (hd : decode cc pc = .ok (.iastore, 1)) (kk : G K Γ ω (va_up σ a (iA K N (va_up f j x))) n ll r) (hn : n = pc + 1 := by rfl) : G K Γ ω σ pc ll (.int x :: .int i :: .ref a :: r) := by
  subst hn
  obtain ⟨l, D, cy⟩ := K
  obtain ⟨p, e, R, s, m, args, below, meth, c, A, H0, Q⟩ := Γ
  obtain ⟨z, k9, n9, L⟩ := ω
  obtain ⟨⟨hx, hb, hml, hown, hts⟩, hrt, hlk, ⟨hK, hEv⟩, hA, hR, hmn, hE⟩ := hC
  intro H locs ls hz hW hS hl
  subst hi
  have hat := hW.at ha
  rw [hσ] at hat
  have hin : ¬ (nI j < 0 ∨ (arrV (cy 0) N (fun j => .int (f j))).slots.size ≤ (nI j).toNatClampNeg) := by rw [arrV_size]; exact vp_in_nI hj hN
  refine W.iast hx hb hat ((hK.2 0 _ rfl).1 N (fun j => .int (f j))) (fun q => by cases q) hin rfl rfl hd fun H1 e z9 oq => ?_
  refine kk H1 _ ls (z9.trans hz) (hW.up ha ?_ oq) (hS.put z9 oq (hW.A ha)) hl
  show H1[a]? = some (arrV (cy 0) N (fun q => .int (va_up f j x q)))
  rw [e, nI_clamp (Nat.lt_trans hj hN)]
  show some ((arrV (cy 0) N (fun q => .int (f q))).setSlot j _) = _
  rw [arrV_store]
  congr 2
  funext q
  by_cases hq : q = j
  · subst hq
    simp [updV, va_up]
  · simp [updV, va_up, hq]
theorem g_cast (hC : gC K Γ cc nL own mn d mc ms rt Po) {a N j : Nat} {f : Nat → Int32} {i : Int32} {x : Int32} (hnv : narrow .char (.int x) = .int x) (ha : a ∈ ω.2.2.2) (hσ : σ a = cA K N f) (hi : i = nI j) (hj : j < N) (hN : N < 2 ^ 31) (hd : decode cc pc = .ok (.castore, 1)) (kk : G K Γ ω (va_up σ a (cA K N (va_up f j x))) n ll r) (hn : n = pc + 1 := by rfl) : G K Γ ω σ pc ll (.int x :: .int i :: .ref a :: r) := by
  subst hn
  obtain ⟨l, D, cy⟩ := K
  obtain ⟨p, e, R, s, m, args, below, meth, c, A, H0, Q⟩ := Γ
  obtain ⟨z, k9, n9, L⟩ := ω
  obtain ⟨⟨hx, hb, hml, hown, hts⟩, hrt, hlk, ⟨hK, hEv⟩, hA, hR, hmn, hE⟩ := hC
  intro H locs ls hz hW hS hl
  subst hi
  have hat := hW.at ha
  rw [hσ] at hat
  have hin : ¬ (nI j < 0 ∨ (arrV (cy 2) N (fun j => .int (f j))).slots.size ≤ (nI j).toNatClampNeg) := by rw [arrV_size]; exact vp_in_nI hj hN
  refine W.cast hx hb hat ((hK.2 2 _ rfl).1 N (fun j => .int (f j))) (fun q => by cases q) hin rfl rfl hd fun H1 e z9 oq => ?_
  refine kk H1 _ ls (z9.trans hz) (hW.up ha ?_ oq) (hS.put z9 oq (hW.A ha)) hl
  show H1[a]? = some (arrV (cy 2) N (fun q => .int (va_up f j x q)))
  rw [e, nI_clamp (Nat.lt_trans hj hN)]
  show some ((arrV (cy 2) N (fun q => .int (f q))).setSlot j _) = _
  rw [arrV_store]
  congr 2
  funext q
  by_cases hq : q = j
  · subst hq
    simp [updV, va_up]
    exact hnv
  · simp [updV, va_up, hq]
theorem g_last (hC : gC K Γ cc nL own mn d mc ms rt Po) {a N j : Nat} {f : Nat → Int64} {i : Int32} {x : Int64}  (ha : a ∈ ω.2.2.2) (hσ : σ a = lA K N f) (hi : i = nI j) (hj : j < N) (hN : N < 2 ^ 31) (hd : decode cc pc = .ok (.lastore, 1)) (kk : G K Γ ω (va_up σ a (lA K N (va_up f j x))) n ll r) (hn : n = pc + 1 := by rfl) : G K Γ ω σ pc ll (.long x :: .int i :: .ref a :: r) := by
  subst hn
  obtain ⟨l, D, cy⟩ := K
  obtain ⟨p, e, R, s, m, args, below, meth, c, A, H0, Q⟩ := Γ
  obtain ⟨z, k9, n9, L⟩ := ω
  obtain ⟨⟨hx, hb, hml, hown, hts⟩, hrt, hlk, ⟨hK, hEv⟩, hA, hR, hmn, hE⟩ := hC
  intro H locs ls hz hW hS hl
  subst hi
  have hat := hW.at ha
  rw [hσ] at hat
  have hin : ¬ (nI j < 0 ∨ (arrV (cy 1) N (fun j => .long (f j))).slots.size ≤ (nI j).toNatClampNeg) := by rw [arrV_size]; exact vp_in_nI hj hN
  refine W.last hx hb hat ((hK.2 1 _ rfl).1 N (fun j => .long (f j))) (fun q => by cases q) hin rfl rfl hd fun H1 e z9 oq => ?_
  refine kk H1 _ ls (z9.trans hz) (hW.up ha ?_ oq) (hS.put z9 oq (hW.A ha)) hl
  show H1[a]? = some (arrV (cy 1) N (fun q => .long (va_up f j x q)))
  rw [e, nI_clamp (Nat.lt_trans hj hN)]
  show some ((arrV (cy 1) N (fun q => .long (f q))).setSlot j _) = _
  rw [arrV_store]
  congr 2
  funext q
  by_cases hq : q = j
  · subst hq
    simp [updV, va_up]
  · simp [updV, va_up, hq]
theorem g_dast (hC : gC K Γ cc nL own mn d mc ms rt Po) {a N j : Nat} {f : Nat → UInt64} {i : Int32} {x : UInt64}  (ha : a ∈ ω.2.2.2) (hσ : σ a = dA K N f) (hi : i = nI j) (hj : j < N) (hN : N < 2 ^ 31) (hd : decode cc pc = .ok (.dastore, 1)) (kk : G K Γ ω (va_up σ a (dA K N (va_up f j x))) n ll r) (hn : n = pc + 1 := by rfl) : G K Γ ω σ pc ll (.double x :: .int i :: .ref a :: r) := by
  subst hn
  obtain ⟨l, D, cy⟩ := K
  obtain ⟨p, e, R, s, m, args, below, meth, c, A, H0, Q⟩ := Γ
  obtain ⟨z, k9, n9, L⟩ := ω
  obtain ⟨⟨hx, hb, hml, hown, hts⟩, hrt, hlk, ⟨hK, hEv⟩, hA, hR, hmn, hE⟩ := hC
  intro H locs ls hz hW hS hl
  subst hi
  have hat := hW.at ha
  rw [hσ] at hat
  have hin : ¬ (nI j < 0 ∨ (arrV (cy 4) N (fun j => .double (f j))).slots.size ≤ (nI j).toNatClampNeg) := by rw [arrV_size]; exact vp_in_nI hj hN
  refine W.dast hx hb hat ((hK.2 4 _ rfl).1 N (fun j => .double (f j))) (fun q => by cases q) hin rfl rfl hd fun H1 e z9 oq => ?_
  refine kk H1 _ ls (z9.trans hz) (hW.up ha ?_ oq) (hS.put z9 oq (hW.A ha)) hl
  show H1[a]? = some (arrV (cy 4) N (fun q => .double (va_up f j x q)))
  rw [e, nI_clamp (Nat.lt_trans hj hN)]
  show some ((arrV (cy 4) N (fun q => .double (f q))).setSlot j _) = _
  rw [arrV_store]
  congr 2
  funext q
  by_cases hq : q = j
  · subst hq
    simp [updV, va_up]
  · simp [updV, va_up, hq]
theorem g_alen (hC : gC K Γ cc nL own mn d mc ms rt Po) {a N t0 : Nat} {cA : ClassId} {ty : FieldType} {f : _} (ha : a ∈ ω.2.2.2) (hσ : σ a = .inl (cA, N, f)) (ht : (gTy K.2.2)[t0]? = some (cA, ty)) (hd : decode cc pc = .ok (.arraylength, 1)) (kk : G K Γ ω σ n ll (.int (nI N) :: r)) (hn : n = pc + 1 := by rfl) : G K Γ ω σ pc ll (.ref a :: r) := by
  subst hn
  obtain ⟨l, D, cy⟩ := K
  obtain ⟨p, e, R, s, m, args, below, meth, c, A, H0, Q⟩ := Γ
  obtain ⟨z, k9, n9, L⟩ := ω
  obtain ⟨⟨hx, hb, hml, hown, hts⟩, hrt, hlk, ⟨hK, hEv⟩, hA, hR, hmn, hE⟩ := hC
  intro H locs ls hz hW hS hl
  obtain ⟨q0, hq⟩ := g_pk ha hσ
  exact va_alen hx hb hK hW.1 q0 t0 hq ht rfl hd (kk H locs ls hz hW hS hl)
end GS1
