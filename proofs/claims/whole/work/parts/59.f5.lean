def gmx (x : Int32) : Int32 := if x = -2147483648 then -1000000 else x
theorem smB_ne {x : Int32} (hx : smB x) : x ≠ -2147483648 := fun e => absurd hx.1 (by rw [e]; decide)
theorem gvF_sm {w h : Nat} {ru : Int32} {g f : Nat → Int32} {m p d : Nat} {ch : Int32} (hn : w * h ≤ 49) (hm : m ≤ 79000) (hch : chOK (w * h) ch) (h1 : cpB f m) (h2 : bnB g) (hp : p ≤ 1) : smB (gvF w h ru g p f ch d) := by
  rw [gvF]
  split
  · exact (nrX_eq hn (by omega) hch h1 h2 hp).2
  · exact (frX_eq hn (by omega) hch h1 h2 hp).2
section GM
variable {w h : Nat} {ru : Int32} {g f : Nat → Int32} {p d c : Nat}
theorem bsM_c (hv : ∀ c, c ≤ w * h → smB (gvF w h ru g p f (chB (w * h) c) d)) : ∀ c, c ≤ w * h + 1 → bsM w h ru g p f d c = -2147483648 ∨ smB (bsM w h ru g p f d c)
  | 0, _ => Or.inl rfl
  | c + 1, hc => by
    rw [bsM]
    split
    · exact Or.inr (hv c (by omega))
    · exact bsM_c hv c (by omega)
theorem gmx_le {x v : Int32} (hx : x = -2147483648 ∨ smB x) (hv : smB v) : v ≤ gmx x ↔ v ≤ x := by
  rcases hx with rfl | hx
  · rw [gmx, if_pos rfl, Int32.le_iff_toInt_le, Int32.le_iff_toInt_le]
    have h1 := hv.1
    have e1 : (-1000000 : Int32).toInt = -1000000 := by decide
    have e2 : (-2147483648 : Int32).toInt = -2147483648 := by decide
    rw [e1, e2]; omega
  · rw [gmx, if_neg (smB_ne hx)]
theorem gmx_lo {x : Int32} (hx : x = -2147483648 ∨ smB x) : -1000000 ≤ gmx x := by
  rcases hx with rfl | hx
  · rw [gmx, if_pos rfl]; decide
  · rw [gmx, if_neg (smB_ne hx), Int32.le_iff_toInt_le, (by decide : (-1000000 : Int32).toInt = -1000000)]
    have := hx.1; omega
theorem chB_lt (hc : c < w * h) : chB (w * h) c = nI c := if_neg (by omega)
theorem chB_n : chB (w * h) (w * h) = -1 := if_pos rfl
theorem mayF_lt (hn : w * h ≤ 49) (hc : c < w * h) (q : ¬ mayF f (nI c)) : ¬ mayF f (chB (w * h) c) := by rw [chB_lt hc]; exact q
theorem bx_n (hc : c < w * h) (q : ¬ mayF f (nI c)) : bsB w h ru g p f d c = bsB w h ru g p f d (c + 1) ∧ gmx (bsM w h ru g p f d c) = gmx (bsM w h ru g p f d (c + 1)) := by
  have := bs_n (w := w) (h := h) (rule := ru) (g := g) (p := p) (dp := d) (c := c) (f := f) (by rw [chB_lt hc]; exact q)
  exact ⟨this.2, by rw [← this.1]⟩
theorem bx_f (hc : c < w * h) (hx : bsM w h ru g p f d c = -2147483648 ∨ smB (bsM w h ru g p f d c)) (hv : smB (gvF w h ru g p f (nI c) d)) (q : gvF w h ru g p f (nI c) d ≤ gmx (bsM w h ru g p f d c)) : bsB w h ru g p f d c = bsB w h ru g p f d (c + 1) ∧ gmx (bsM w h ru g p f d c) = gmx (bsM w h ru g p f d (c + 1)) := by
  have := bs_f (w := w) (h := h) (rule := ru) (g := g) (p := p) (dp := d) (c := c) (f := f) (by rw [chB_lt hc]; exact (gmx_le hx hv).mp q)
  exact ⟨this.2, by rw [← this.1]⟩
theorem bx_t (hc : c < w * h) (hx : bsM w h ru g p f d c = -2147483648 ∨ smB (bsM w h ru g p f d c)) (hv : smB (gvF w h ru g p f (nI c) d)) (q0 : mayF f (nI c)) (q : ¬ gvF w h ru g p f (nI c) d ≤ gmx (bsM w h ru g p f d c)) : nI c = bsB w h ru g p f d (c + 1) ∧ gvF w h ru g p f (nI c) d = gmx (bsM w h ru g p f d (c + 1)) := by
  have := bs_t (w := w) (h := h) (rule := ru) (g := g) (p := p) (dp := d) (c := c) (f := f) (by rw [chB_lt hc]; exact q0) (by rw [chB_lt hc]; exact fun z => q ((gmx_le hx hv).mpr z))
  rw [chB_lt hc] at this
  exact ⟨this.2, by rw [← this.1, gmx, if_neg (smB_ne hv)]⟩
theorem bl_f (e : c = w * h) (hx : bsM w h ru g p f d c = -2147483648 ∨ smB (bsM w h ru g p f d c)) (hv : smB (gvF w h ru g p f (-1) d)) (q : gvF w h ru g p f (-1) d ≤ gmx (bsM w h ru g p f d c)) : bsB w h ru g p f d c = bsB w h ru g p f d (w * h + 1) := by
  subst e
  exact (bs_f (w := w) (h := h) (rule := ru) (g := g) (p := p) (dp := d) (c := w * h) (f := f) (by rw [chB_n]; exact (gmx_le hx hv).mp q)).2
theorem bl_t (e : c = w * h) (hx : bsM w h ru g p f d c = -2147483648 ∨ smB (bsM w h ru g p f d c)) (hv : smB (gvF w h ru g p f (-1) d)) (q : ¬ gvF w h ru g p f (-1) d ≤ gmx (bsM w h ru g p f d c)) : (-1 : Int32) = bsB w h ru g p f d (w * h + 1) := by
  subst e
  have := (bs_t (w := w) (h := h) (rule := ru) (g := g) (p := p) (dp := d) (c := w * h) (f := f) (by rw [chB_n]; exact Or.inl rfl) (by rw [chB_n]; exact fun z => q ((gmx_le hx hv).mpr z))).2
  rw [chB_n] at this
  exact this
end GM

set_option maxRecDepth 20000 in
set_option maxHeartbeats 4000000 in
theorem F_best (K : GK) {σ : GS} {L : List Nat} {z : Nat} {g b : Nat} {w h : Nat} {ru : Int32} {pl : Nat} {bo0 bo1 : Int32} {D : Nat → RD} {rows : Nat → Nat → Int32} (hG : gmI K L σ g b ru pl bo0 bo1 D) (hsb : σ b = bdA w h) (hw1 : 4 ≤ w) (hw2 : w ≤ 7) (hh1 : 4 ≤ h) (hh2 : h ≤ 7) (hP : gmP (w * h) pl D rows) {X kp rf ip fo : Nat} {hk : Int32} (mX : X ∈ L) (sX : σ X = xOg g kp hk rf ip fo) (hXg : X < g) (mF : fo ∈ L) (sF : σ fo = .inr (1, [.ref (fo + 1), .ref (fo + 5)])) (hgf : g + 245 ≤ fo) (hru : ∃ r0, r0 ≤ 2 ∧ ru = nI r0) {mm8 : Nat} (hmm8 : mm8 ≤ 79000) (hcb : cpB (rows pl) mm8) (hbb : bnB (bnO bo0 bo1)) (hla : ∃ d, ((∀ k, 6 ≤ k → d.2.2.2 k = 0) ∧ ∀ k, 8 ≤ k → d.2.2.1 k = 0) ∧ rdD K L σ (fo + 5) d) (hna : ∃ d, ((∀ k, 6 ≤ k → d.2.2.2 k = 0) ∧ ∀ k, 8 ≤ k → d.2.2.1 k = 0) ∧ rdD K L σ (fo + 1) d) (hbf : b < fo + 1 ∨ fo + 8 < b) (hf153 : rows pl 153 = nI pl) {x y : Int32} : gX K yX7_best cX7_best 8 (some .int) 11 1 7 [.ref X, .int x, .int y] z L (σ) (fun r z1 L1 σ2 => (∃ p0 d0, p0 ≤ 1 ∧ 1 ≤ d0 ∧ d0 ≤ 2 ∧ x = nI p0 ∧ y = nI d0 ∧ (¬ endP pl (w * h) D rows ∧ ¬ (d0 = 2 ∧ 6 < mny (rows pl) (w * h) (nI 0))) ∧ r = some (.int (bsB w h ru (bnO bo0 bo1) p0 (rows pl) d0 (w * h + 1)))) ∧ z1 = z ∧ L1 = L ∧ foR K L fo σ σ2) (fun E z1 L1 σ2 => z ≤ z1 ∧ L1 = L ∧ ((E = "java/lang/IndexOutOfBoundsException" ∧ ¬ inR 0 1 x ∧ σ2 = σ) ∨ (E = "java/lang/IllegalArgumentException" ∧ inR 0 1 x ∧ ¬ inR 1 2 y ∧ σ2 = σ) ∨ (E = "java/lang/IllegalStateException" ∧ (∃ p0 d0, p0 ≤ 1 ∧ 1 ≤ d0 ∧ d0 ≤ 2 ∧ x = nI p0 ∧ y = nI d0 ∧ ¬ (¬ endP pl (w * h) D rows ∧ ¬ (d0 = 2 ∧ 6 < mny (rows pl) (w * h) (nI 0)))) ∧ σ2 = σ))) := by
  have hn : w * h ≤ 49 := Nat.mul_le_mul hw2 hh2
  have hn1 : 16 ≤ w * h := Nat.mul_le_mul hw1 hh1
  have hn49 : w * h ≤ 49 := hn
  obtain ⟨m0, m2, m3, m4, hbL⟩ := hG.1
  have s0 := hG.2.1
  have s2 := hG.2.2.1
  have hpl := hP.1
  have hlat := gm_lat hG hP
  refine g_introX [some (.ref X), some (.int x), some (.int y), none, none, none, none, none] (fun Γ hC hX => ?_) (by simp [g_en, lv_args, Value.category])
  refine g_iload_n (n := 1) hC rfl dX7_best_0 ?_
  refine g_cS (n := 4) (hroom := by exact ⟨Nat.zero_le _, Nat.zero_le _⟩) hC gs_X7_73 (X_isPlayer K) dX7_best_1 ?_
  refine g_ifb_ne (n := 7) (tgt := 17) hC dX7_best_4 (fun h4 => ?_) (fun h4 => ?_)
  ·
    refine g_iload_n (n := 18) hC rfl dX7_best_17 ?_
    refine g_cS (n := 21) (hroom := by exact ⟨Nat.zero_le _, Nat.zero_le _⟩) hC gs_X7_242 (X_isDepth K) dX7_best_18 ?_
    refine g_ifb_ne (n := 24) (tgt := 34) hC dX7_best_21 (fun h21 => ?_) (fun h21 => ?_)
    ·
      obtain ⟨p0, _, hp1, rfl⟩ := id h4
      obtain ⟨d0, hd1, hd2, rfl⟩ := h21
      refine g_aload_n (n := 35) hC rfl dX7_best_34 ?_
      refine g_iload_n (n := 36) hC rfl dX7_best_35 ?_
      refine g_cV (n := 39) (hroom := by exact ⟨Nat.zero_le _, Nat.zero_le _⟩) hC gv_X7_247 (mX) (sX) (X_canLook K hG hsb hw1 hw2 hh1 hh2 hP mX sX hXg (dp := d0) (by omega)) dX7_best_36 ?_
      refine g_ifb_ne (n := 42) (tgt := 53) hC dX7_best_39 (fun h39 => ?_) (fun h39 => ?_)
      ·
        have hp60 : pl < 60 := by
          rcases Nat.lt_or_ge pl 60 with q | q
          · exact q
          · exact absurd ⟨by omega, Or.inr (Or.inr q)⟩ h39.1
        have hlf : latA g pl + 1 < fo + 1 := by rw [latA]; split <;> omega
        have hvs : ∀ c, chOK (w * h) c → smB (gvF w h ru (bnO bo0 bo1) p0 (rows pl) c d0) := fun c hc9 => gvF_sm hn49 hmm8 hc9 hcb hbb hp1
        have hbx := bsM_c (w := w) (h := h) (ru := ru) (g := (bnO bo0 bo1)) (p := p0) (f := rows pl) (d := d0) (fun c hc9 => hvs _ (chB_ok hc9))
        refine g_aload_n (n := 54) hC rfl dX7_best_53 ?_
        refine g_getf (n := 57) (v := .ref g) hC gf_X7_10 (mX) (sX) rfl dX7_best_54 ?_
        refine g_cV (n := 60) (hroom := by exact ⟨Nat.zero_le _, Nat.zero_le _⟩) hC gv_X7_57 (m0) (s0) (X_latest K hG hsb hw1 hw2 hh1 hh2 hP) dX7_best_57 ?_
        refine g_astore_n (n := 61) (ll1 := [some (.ref X), some (.int (nI p0)), some (.int (nI d0)), some (.ref (latA g pl)), none, none, none, none]) hC dX7_best_60 rfl ?_
        refine g_iconst (n := 62) (v := (-1)) hC (by decide) dX7_best_61 ?_
        refine g_istore (n := 64) (ll1 := [some (.ref X), some (.int (nI p0)), some (.int (nI d0)), some (.ref (latA g pl)), some (.int (-1)), none, none, none]) hC dX7_best_62 rfl ?_
        refine g_ldcw (n := 67) hC gc_X7_260 dX7_best_64 ?_
        refine g_istore (n := 69) (ll1 := [some (.ref X), some (.int (nI p0)), some (.int (nI d0)), some (.ref (latA g pl)), some (.int (-1)), some (.int (-1000000)), none, none]) hC dX7_best_67 rfl ?_
        refine g_iconst (n := 70) (v := (nI 0)) hC (by decide) dX7_best_69 ?_
        refine g_istore (n := 72) (ll1 := [some (.ref X), some (.int (nI p0)), some (.int (nI d0)), some (.ref (latA g pl)), some (.int (-1)), some (.int (-1000000)), some (.int (nI 0)), none]) hC dX7_best_70 rfl ?_
        have lp72 : ∀ (n9 : Nat) (c : Nat) (σ9 : GS) (hc : c ≤ w * h) (hS9 : foR K L fo σ σ9) (y4 : Int32) (ey4 : y4 = (bsB w h ru (bnO bo0 bo1) p0 (rows pl) d0 c)) (y5 : Int32) (ey5 : y5 = (gmx (bsM w h ru (bnO bo0 bo1) p0 (rows pl) d0 c))) (y6 : Int32) (ey6 : y6 = (nI c)) (hm9 : w * h - c < n9), G K Γ (z, 0, 0, L) (σ9) 72 [some (.ref X), some (.int (nI p0)), some (.int (nI d0)), some (.ref (latA g pl)), some (.int y4), some (.int y5), some (.int y6), none] [] := by
          intro n9
          induction n9 with
          | zero =>
            intro c σ9 hc hS9 y4 ey4 y5 ey5 y6 ey6 hm9
            exact absurd hm9 (Nat.not_lt_zero _)
          | succ n9 ih72 =>
            intro c σ9 hc hS9 y4 ey4 y5 ey5 y6 ey6 hm9
            subst ey4
            subst ey5
            subst ey6
            have hS9c : foR K L fo σ σ9 := hS9
            obtain ⟨hla9, hna9, hf9⟩ := hS9c
            have hG9 := gm_eq (σ1 := σ9) (fun a9 h1 h2 _ => hf9 a9 (by omega)) hG
            have hsb9 : σ9 b = bdA w h := (hf9 b (by omega)).trans hsb
            have sF9 := (hf9 fo (by omega)).trans sF
            have sX9 := (hf9 X (by omega)).trans sX
            have hlat9 := gm_lat hG9 hP
            refine g_iload (n := 74) hC rfl dX7_best_72 ?_
            refine g_aload_n (n := 75) hC rfl dX7_best_74 ?_
            refine g_getf (n := 78) (v := .ref g) hC gf_X7_10 (mX) (sX9) rfl dX7_best_75 ?_
            refine g_getf (n := 81) (v := .ref b) hC gf_X7_123 (m0) (hG9.2.1) rfl dX7_best_78 ?_
            refine g_getf (n := 84) (v := .int (nI (w * h))) hC gf_X7_261 (hbL) (hsb9) rfl dX7_best_81 ?_
            refine g_icmp_geN (n := 87) (tgt := 141) hC (by omega) (by omega) dX7_best_84 (fun h84 => ?_) (fun h84 => ?_)
            ·
              refine g_aload_n (n := 142) hC rfl dX7_best_141 ?_
              refine g_getf (n := 145) (v := .ref fo) hC gf_X7_40 (mX) (sX9) rfl dX7_best_142 ?_
              refine g_aload_n (n := 146) hC rfl dX7_best_145 ?_
              refine g_getf (n := 149) (v := .ref g) hC gf_X7_10 (mX) (sX9) rfl dX7_best_146 ?_
              refine g_aload_n (n := 150) hC rfl dX7_best_149 ?_
              refine g_iload_n (n := 151) hC rfl dX7_best_150 ?_
              refine g_iconst (n := 152) (v := (-1)) hC (by decide) dX7_best_151 ?_
              refine g_iload_n (n := 153) hC rfl dX7_best_152 ?_
              refine g_callVN hC gv_X7_254 (X_leastV K hG9 hsb9 hw1 hw2 hh1 hh2 hP hlat9.1 hlat9.2.1 hlat9.2.2.1 hlat9.2.2.2 mF sF9 hgf hru hmm8 hcb hbb hla9 hna9 hbf hf153 hlf hp60 (p := p0) (dp := d0) hp1 hd1 hd2 (ch := -1) (Or.inl rfl)) mF sF9 (by rfl) (by omega) (by decide) (by rfl) (by rfl) (Nat.le_of_ble_eq_true rfl) (by exact ⟨Nat.zero_le _, Nat.zero_le _⟩) dX7_best_153 (fun rv9 z9 L9 σ7 hp9 => ?_)
              obtain ⟨hr9, hz9, hL9, hla7, hna7, hf7⟩ := hp9
              rw [hr9, hz9, hL9]
              have hS7 : foR K L fo σ σ7 := ⟨hla7, hna7, fun b9 hb9 => (hf7 b9 hb9).trans (hf9 b9 hb9)⟩
              show G K Γ (z, 0, 0, L) (σ7) 156 [some (.ref X), some (.int (nI p0)), some (.int (nI d0)), some (.ref (latA g pl)), some (.int (bsB w h ru (bnO bo0 bo1) p0 (rows pl) d0 c)), some (.int (gmx (bsM w h ru (bnO bo0 bo1) p0 (rows pl) d0 c))), some (.int (nI c)), none] [.int (gvF w h ru (bnO bo0 bo1) p0 (rows pl) (-1) d0)]
              refine g_iload (n := 158) hC rfl dX7_best_156 ?_
              refine g_icmp_le (n := 161) (tgt := 165) hC dX7_best_158 (fun h158 => ?_) (fun h158 => ?_)
              ·
                refine g_iload (n := 167) hC rfl dX7_best_165 ?_
                exact g_iret hC dX7_best_167 (⟨⟨p0, d0, hp1, hd1, hd2, rfl, rfl, h39, rI (bl_f (by omega) (hbx _ (by omega)) (hvs _ (Or.inl rfl)) h158)⟩, rfl, rfl, hS7⟩) (Nat.zero_le _) (Nat.zero_le _)
              ·
                refine g_iconst (n := 162) (v := (-1)) hC (by decide) dX7_best_161 ?_
                refine g_goto (n := 167) hC dX7_best_162 ?_
                exact g_iret hC dX7_best_167 (⟨⟨p0, d0, hp1, hd1, hd2, rfl, rfl, h39, rI (bl_t (by omega) (hbx _ (by omega)) (hvs _ (Or.inl rfl)) h158)⟩, rfl, rfl, hS7⟩) (Nat.zero_le _) (Nat.zero_le _)
            ·
              refine g_aload_n (n := 88) hC rfl dX7_best_87 ?_
              refine g_iload (n := 90) hC rfl dX7_best_88 ?_
              refine g_cV (n := 93) (hroom := by exact ⟨Nat.zero_le _, Nat.zero_le _⟩) hC gv_X7_250 (hlat9.1) (hlat9.2.2.1) (X_admits K hlat9.1 hlat9.2.1 hlat9.2.2.1 hlat9.2.2.2 hn49 (x := nI c) (Or.inr ⟨c, by omega, rfl⟩)) dX7_best_90 ?_
              refine g_ifb_eq (n := 96) (tgt := 115) hC dX7_best_93 (fun h93 => ?_) (fun h93 => ?_)
              ·
                refine g_ldcw (n := 118) hC gc_X7_260 dX7_best_115 ?_
                refine g_istore (n := 120) (ll1 := [some (.ref X), some (.int (nI p0)), some (.int (nI d0)), some (.ref (latA g pl)), some (.int (bsB w h ru (bnO bo0 bo1) p0 (rows pl) d0 c)), some (.int (gmx (bsM w h ru (bnO bo0 bo1) p0 (rows pl) d0 c))), some (.int (nI c)), some (.int (-1000000))]) hC dX7_best_118 rfl ?_
                refine g_iload (n := 122) hC rfl dX7_best_120 ?_
                refine g_iload (n := 124) hC rfl dX7_best_122 ?_
                refine g_icmp_le (n := 127) (tgt := 135) hC dX7_best_124 (fun h124 => ?_) (fun h124 => ?_)
                ·
                  refine g_iinc (n := 138) (ll1 := [some (.ref X), some (.int (nI p0)), some (.int (nI d0)), some (.ref (latA g pl)), some (.int (bsB w h ru (bnO bo0 bo1) p0 (rows pl) d0 c)), some (.int (gmx (bsM w h ru (bnO bo0 bo1) p0 (rows pl) d0 c))), some (.int (nI (c + 1))), some (.int (-1000000))]) hC dX7_best_135 rfl (nI_inc _) rfl ?_
                  refine g_goto (n := 72) hC dX7_best_138 ?_
                  exact G.le (ih72 (c + 1) σ9 (by omega) (by first | exact hS7 | exact hS9 | exact ⟨hla, hna, fun b9 _ => rfl⟩) _ ((bx_n (by omega) h93).1) _ ((bx_n (by omega) h93).2) _ (by first | rfl | (simp [*]; done)) (by omega)) (And.intro rfl (And.intro rfl (And.intro rfl (And.intro rfl (And.intro rfl (And.intro rfl (And.intro rfl (trivial))))))))
                ·
                  refine g_iload (n := 129) hC rfl dX7_best_127 ?_
                  refine g_istore (n := 131) (ll1 := [some (.ref X), some (.int (nI p0)), some (.int (nI d0)), some (.ref (latA g pl)), some (.int (bsB w h ru (bnO bo0 bo1) p0 (rows pl) d0 c)), some (.int (-1000000)), some (.int (nI c)), some (.int (-1000000))]) hC dX7_best_129 rfl ?_
                  refine g_iload (n := 133) hC rfl dX7_best_131 ?_
                  refine g_istore (n := 135) (ll1 := [some (.ref X), some (.int (nI p0)), some (.int (nI d0)), some (.ref (latA g pl)), some (.int (nI c)), some (.int (-1000000)), some (.int (nI c)), some (.int (-1000000))]) hC dX7_best_133 rfl ?_
                  refine g_iinc (n := 138) (ll1 := [some (.ref X), some (.int (nI p0)), some (.int (nI d0)), some (.ref (latA g pl)), some (.int (nI c)), some (.int (-1000000)), some (.int (nI (c + 1))), some (.int (-1000000))]) hC dX7_best_135 rfl (nI_inc _) rfl ?_
                  refine g_goto (n := 72) hC dX7_best_138 ?_
                  exact G.le (ih72 (c + 1) σ9 (by omega) (by first | exact hS7 | exact hS9 | exact ⟨hla, hna, fun b9 _ => rfl⟩) _ (absurd (gmx_lo (hbx c (by omega))) h124) _ (absurd (gmx_lo (hbx c (by omega))) h124) _ (by first | rfl | (simp [*]; done)) (by omega)) (And.intro rfl (And.intro rfl (And.intro rfl (And.intro rfl (And.intro rfl (And.intro rfl (And.intro rfl (trivial))))))))
              ·
                refine g_aload_n (n := 97) hC rfl dX7_best_96 ?_
                refine g_getf (n := 100) (v := .ref fo) hC gf_X7_40 (mX) (sX9) rfl dX7_best_97 ?_
                refine g_aload_n (n := 101) hC rfl dX7_best_100 ?_
                refine g_getf (n := 104) (v := .ref g) hC gf_X7_10 (mX) (sX9) rfl dX7_best_101 ?_
                refine g_aload_n (n := 105) hC rfl dX7_best_104 ?_
                refine g_iload_n (n := 106) hC rfl dX7_best_105 ?_
                refine g_iload (n := 108) hC rfl dX7_best_106 ?_
                refine g_iload_n (n := 109) hC rfl dX7_best_108 ?_
                refine g_callVN hC gv_X7_254 (X_leastV K hG9 hsb9 hw1 hw2 hh1 hh2 hP hlat9.1 hlat9.2.1 hlat9.2.2.1 hlat9.2.2.2 mF sF9 hgf hru hmm8 hcb hbb hla9 hna9 hbf hf153 hlf hp60 (p := p0) (dp := d0) hp1 hd1 hd2 (ch := nI c) (Or.inr ⟨c, by omega, rfl⟩)) mF sF9 (by rfl) (by omega) (by decide) (by rfl) (by rfl) (Nat.le_of_ble_eq_true rfl) (by exact ⟨Nat.zero_le _, Nat.zero_le _⟩) dX7_best_109 (fun rv9 z9 L9 σ7 hp9 => ?_)
                obtain ⟨hr9, hz9, hL9, hla7, hna7, hf7⟩ := hp9
                rw [hr9, hz9, hL9]
                have hS7 : foR K L fo σ σ7 := ⟨hla7, hna7, fun b9 hb9 => (hf7 b9 hb9).trans (hf9 b9 hb9)⟩
                show G K Γ (z, 0, 0, L) (σ7) 112 [some (.ref X), some (.int (nI p0)), some (.int (nI d0)), some (.ref (latA g pl)), some (.int (bsB w h ru (bnO bo0 bo1) p0 (rows pl) d0 c)), some (.int (gmx (bsM w h ru (bnO bo0 bo1) p0 (rows pl) d0 c))), some (.int (nI c)), none] [.int (gvF w h ru (bnO bo0 bo1) p0 (rows pl) (nI c) d0)]
                refine g_goto (n := 118) hC dX7_best_112 ?_
                refine g_istore (n := 120) (ll1 := [some (.ref X), some (.int (nI p0)), some (.int (nI d0)), some (.ref (latA g pl)), some (.int (bsB w h ru (bnO bo0 bo1) p0 (rows pl) d0 c)), some (.int (gmx (bsM w h ru (bnO bo0 bo1) p0 (rows pl) d0 c))), some (.int (nI c)), some (.int (gvF w h ru (bnO bo0 bo1) p0 (rows pl) (nI c) d0))]) hC dX7_best_118 rfl ?_
                refine g_iload (n := 122) hC rfl dX7_best_120 ?_
                refine g_iload (n := 124) hC rfl dX7_best_122 ?_
                refine g_icmp_le (n := 127) (tgt := 135) hC dX7_best_124 (fun h124 => ?_) (fun h124 => ?_)
                ·
                  refine g_iinc (n := 138) (ll1 := [some (.ref X), some (.int (nI p0)), some (.int (nI d0)), some (.ref (latA g pl)), some (.int (bsB w h ru (bnO bo0 bo1) p0 (rows pl) d0 c)), some (.int (gmx (bsM w h ru (bnO bo0 bo1) p0 (rows pl) d0 c))), some (.int (nI (c + 1))), some (.int (gvF w h ru (bnO bo0 bo1) p0 (rows pl) (nI c) d0))]) hC dX7_best_135 rfl (nI_inc _) rfl ?_
                  refine g_goto (n := 72) hC dX7_best_138 ?_
                  exact G.le (ih72 (c + 1) σ7 (by omega) (by first | exact hS7 | exact hS9 | exact ⟨hla, hna, fun b9 _ => rfl⟩) _ ((bx_f (by omega) (hbx c (by omega)) (hvs _ (Or.inr ⟨c, by omega, rfl⟩)) h124).1) _ ((bx_f (by omega) (hbx c (by omega)) (hvs _ (Or.inr ⟨c, by omega, rfl⟩)) h124).2) _ (by first | rfl | (simp [*]; done)) (by omega)) (And.intro rfl (And.intro rfl (And.intro rfl (And.intro rfl (And.intro rfl (And.intro rfl (And.intro rfl (trivial))))))))
                ·
                  refine g_iload (n := 129) hC rfl dX7_best_127 ?_
                  refine g_istore (n := 131) (ll1 := [some (.ref X), some (.int (nI p0)), some (.int (nI d0)), some (.ref (latA g pl)), some (.int (bsB w h ru (bnO bo0 bo1) p0 (rows pl) d0 c)), some (.int (gvF w h ru (bnO bo0 bo1) p0 (rows pl) (nI c) d0)), some (.int (nI c)), some (.int (gvF w h ru (bnO bo0 bo1) p0 (rows pl) (nI c) d0))]) hC dX7_best_129 rfl ?_
                  refine g_iload (n := 133) hC rfl dX7_best_131 ?_
                  refine g_istore (n := 135) (ll1 := [some (.ref X), some (.int (nI p0)), some (.int (nI d0)), some (.ref (latA g pl)), some (.int (nI c)), some (.int (gvF w h ru (bnO bo0 bo1) p0 (rows pl) (nI c) d0)), some (.int (nI c)), some (.int (gvF w h ru (bnO bo0 bo1) p0 (rows pl) (nI c) d0))]) hC dX7_best_133 rfl ?_
                  refine g_iinc (n := 138) (ll1 := [some (.ref X), some (.int (nI p0)), some (.int (nI d0)), some (.ref (latA g pl)), some (.int (nI c)), some (.int (gvF w h ru (bnO bo0 bo1) p0 (rows pl) (nI c) d0)), some (.int (nI (c + 1))), some (.int (gvF w h ru (bnO bo0 bo1) p0 (rows pl) (nI c) d0))]) hC dX7_best_135 rfl (nI_inc _) rfl ?_
                  refine g_goto (n := 72) hC dX7_best_138 ?_
                  exact G.le (ih72 (c + 1) σ7 (by omega) (by first | exact hS7 | exact hS9 | exact ⟨hla, hna, fun b9 _ => rfl⟩) _ ((bx_t (by omega) (hbx c (by omega)) (hvs _ (Or.inr ⟨c, by omega, rfl⟩)) h93 h124).1) _ ((bx_t (by omega) (hbx c (by omega)) (hvs _ (Or.inr ⟨c, by omega, rfl⟩)) h93 h124).2) _ (by first | rfl | (simp [*]; done)) (by omega)) (And.intro rfl (And.intro rfl (And.intro rfl (And.intro rfl (And.intro rfl (And.intro rfl (And.intro rfl (trivial))))))))
        exact lp72 _ 0 σ (by omega) (by first | exact hS7 | exact hS9 | exact ⟨hla, hna, fun b9 _ => rfl⟩) _ (rfl) _ (rfl) _ (by first | rfl | (simp [*]; done)) (Nat.lt_succ_self _)
      ·
        exact g_throwSW hC hX th_ISE (List.mem_of_getElem? (i := 20) rfl) dX7_best_42 dX7_best_45 dX7_best_46 dX7_best_49 dX7_best_52 (fun z9 hz9 => ⟨hz9, rfl, Or.inr (Or.inr ⟨rfl, ⟨p0, d0, hp1, hd1, hd2, rfl, rfl, h39⟩, rfl⟩)⟩)
    ·
      exact g_throwS hC hX th_IAE (List.mem_of_getElem? (i := 18) rfl) dX7_best_24 dX7_best_27 dX7_best_28 dX7_best_30 dX7_best_33 (fun z9 hz9 => ⟨hz9, rfl, Or.inr (Or.inl ⟨rfl, h4, h21, rfl⟩)⟩)
  ·
    exact g_throwS hC hX th_IOB (List.mem_of_getElem? (i := 3) rfl) dX7_best_7 dX7_best_10 dX7_best_11 dX7_best_13 dX7_best_16 (fun z9 hz9 => ⟨hz9, rfl, Or.inl ⟨rfl, h4, rfl⟩⟩)
