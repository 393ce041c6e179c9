/-! ===== the law: its own rows, a segment for each call ===== -/
def gSc (Γ : GX) (b0 len : Nat) (xs : Nat → Int32) : Prop :=
  match Γ with
  | (_, _, _, s, _, _, _, _, _, A, H0, _) => va_X b0 len xs s H0 ∧ b0 < H0.size ∧ ¬ A b0
section LR
variable {K : GK} {Γ : GX} {cc : ByteArray} {nL d mc ms : Nat} {own mn : String} {rt : Option FieldType} {Po : GP} {ω : GO} {σ : GS} {pc n : Nat} {ll : List (Option Value)} {r : List Value}
theorem g_sld (hC : gC K Γ cc nL own mn d mc ms rt Po) {b0 len j : Nat} {xs : Nat → Int32} (hS9 : gSc Γ b0 len xs) {i : Int32} (hi : i = nI j) (hj : j < len) (hN : len < 2 ^ 31) (hd : decode cc pc = .ok (.iaload, 1)) (kk : G K Γ ω σ n ll (.int (xs j) :: r)) (hn : n = pc + 1 := by rfl) : G K Γ ω σ pc ll (.int i :: .ref b0 :: r) := by
  subst hn
  obtain ⟨l, D, cy⟩ := K
  obtain ⟨p, e, R, s, m, args, below, meth, c, A, H0, Q⟩ := Γ
  obtain ⟨z, k9, n9, L⟩ := ω
  obtain ⟨⟨hx, hb, hml, hown, hts⟩, hrt, hlk, ⟨hK, hEv⟩, hA, hR, hmn, hE⟩ := hC
  obtain ⟨hX, hbl, hbA⟩ := hS9
  intro H locs ls hz hW hS hl
  subst hi
  exact va_sld hx hb hX hbl hbA hS (vp_in_nI hj hN) hd (by rw [nI_clamp (Nat.lt_trans hj hN)]; exact kk H locs ls hz hW hS hl)
theorem g_slen (hC : gC K Γ cc nL own mn d mc ms rt Po) {b0 len : Nat} {xs : Nat → Int32} (hS9 : gSc Γ b0 len xs) (hd : decode cc pc = .ok (.arraylength, 1)) (kk : G K Γ ω σ n ll (.int (nI len) :: r)) (hn : n = pc + 1 := by rfl) : G K Γ ω σ pc ll (.ref b0 :: r) := by
  subst hn
  obtain ⟨l, D, cy⟩ := K
  obtain ⟨p, e, R, s, m, args, below, meth, c, A, H0, Q⟩ := Γ
  obtain ⟨z, k9, n9, L⟩ := ω
  obtain ⟨⟨hx, hb, hml, hown, hts⟩, hrt, hlk, ⟨hK, hEv⟩, hA, hR, hmn, hE⟩ := hC
  obtain ⟨hX, hbl, hbA⟩ := hS9
  intro H locs ls hz hW hS hl
  exact va_slen hx hb hX hbl hbA hS hd (kk H locs ls hz hW hS hl)
theorem g_dcmp (hC : gC K Γ cc nL own mn d mc ms rt Po) {op : CmpOp} {u v : UInt64} (hd : decode cc pc = .ok (.dcmp op, 1)) (kk : G K Γ ω σ n ll (.int (Op.cmpValue (FP.dcmp u v) op) :: r)) (hn : n = pc + 1 := by rfl) : G K Γ ω σ pc ll (.double v :: .double u :: r) := by
  subst hn
  obtain ⟨l, D, cy⟩ := K
  obtain ⟨p, e, R, s, m, args, below, meth, c, A, H0, Q⟩ := Γ
  obtain ⟨z, k9, n9, L⟩ := ω
  obtain ⟨⟨hx, hb, hml, hown, hts⟩, hrt, hlk, ⟨hK, hEv⟩, hA, hR, hmn, hE⟩ := hC
  intro H locs ls hz hW hS hl
  exact lv_dcmp hx hb hd (kk H locs ls hz hW hS hl)
theorem c16 (x : Int32) : ∃ v : Nat, v < 65536 ∧ (x.toUInt32 % 65536).toInt32 = nI v := by
  refine ⟨(x.toUInt32 % 65536).toNat, ?_, ?_⟩
  · rw [UInt32.toNat_mod]
    exact Nat.mod_lt _ (by decide)
  · generalize x.toUInt32 % 65536 = u
    apply Int32.toBitVec_inj.mp
    show u.toBitVec = BitVec.ofNat 32 u.toNat
    apply BitVec.eq_of_toNat_eq
    rw [BitVec.toNat_ofNat]
    exact (Nat.mod_eq_of_lt u.toBitVec.isLt).symm
end LR

theorem lt4 {len i : Nat} (h : len < 4) (hi : i < 2000) : nI len - nI 4 < nI i := by
  rw [Int32.lt_iff_toInt_lt, nI_toInt (by omega)]
  rcases (show len = 0 ∨ len = 1 ∨ len = 2 ∨ len = 3 by omega) with rfl | rfl | rfl | rfl
  · have : (nI 0 - nI 4).toInt = -4 := by decide
    omega
  · have : (nI 1 - nI 4).toInt = -3 := by decide
    omega
  · have : (nI 2 - nI 4).toInt = -2 := by decide
    omega
  · have : (nI 3 - nI 4).toInt = -1 := by decide
    omega

set_option maxRecDepth 20000 in
theorem LC_start {K : GK} {Γ : GX} {Po : GP} {mn : String} {b0 len : Nat} {xs : Nat → Int32} (hC : gC K Γ cL_law 9 RL mn 14 601024 7293034 (some .boolean) Po) (hZ9 : gCZ K Γ) (hS9 : gSc Γ b0 len xs) (hlen : len ≤ 2048) {i a z k9 n9 : Nat} {L : List Nat} {σ : GS} {th : Int32} (hi : i + 4 ≤ len) (hI : wI K a th z L σ) (hk : k9 ≤ 600 + i) (hn : n9 ≤ 30000 + 7 * i) (hb : ∀ (th9 : Int32) (z9 kk9 nn9 : Nat) (L9 : List Nat) (σ9 : GS), wI K a th9 z9 L9 σ9 → kk9 ≤ 604 + i → nn9 ≤ 30028 + 7 * i → G K Γ (z9, kk9, nn9, L9) σ9 1631 [some (.ref b0), some (.ref a), some (.ref (a + 506)), some (.ref (a + 524)), some (.ref (a + 525)), some (.int (nI i)), none, none, none] []) : G K Γ (z, k9, n9, L) σ 164 [some (.ref b0), some (.ref a), some (.ref (a + 506)), some (.ref (a + 524)), some (.ref (a + 525)), some (.int (nI i)), none, none, none] [] := by
  obtain ⟨⟨ma, fsa, sa⟩, ⟨mM0, fsM0, sM0⟩, _⟩ := wI_S hI
  refine g_aload_n (n := 165) hC rfl dL_law_164 ?_
  refine g_aload_n (n := 166) hC rfl dL_law_165 ?_
  refine g_iload (n := 168) hC rfl dL_law_166 ?_
  refine g_iconst (n := 169) (v := (nI 1)) hC (by decide) dL_law_168 ?_
  refine g_iaddN (n := 170) hC dL_law_169 ?_
  refine g_sld (n := 171) (j := i + 1) hC hS9 rfl (by omega) (by omega) dL_law_170 ?_
  refine g_aload_n (n := 172) hC rfl dL_law_171 ?_
  refine g_iload (n := 174) hC rfl dL_law_172 ?_
  refine g_iconst (n := 175) (v := (nI 2)) hC (by decide) dL_law_174 ?_
  refine g_iaddN (n := 176) hC dL_law_175 ?_
  refine g_sld (n := 177) (j := i + 2) hC hS9 rfl (by omega) (by omega) dL_law_176 ?_
  refine g_aload_n (n := 178) hC rfl dL_law_177 ?_
  refine g_iload (n := 180) hC rfl dL_law_178 ?_
  refine g_iconst (n := 181) (v := (nI 3)) hC (by decide) dL_law_180 ?_
  refine g_iaddN (n := 182) hC dL_law_181 ?_
  refine g_sld (n := 183) (j := i + 3) hC hS9 rfl (by omega) (by omega) dL_law_182 ?_
  refine g_aload_n (n := 184) hC rfl dL_law_183 ?_
  refine g_callW (r := []) hC hZ9 gw_L_101 (C_start K hI (xs (i + 1)) (xs (i + 2)) (xs (i + 3))) (by decide) (by decide) rfl rfl (Nat.le_of_ble_eq_true rfl) ⟨by show k9 + 1 ≤ 601024; omega, by show n9 + 7 ≤ 7293034; omega⟩ dL_law_184 (fun rv z1 L1 σ1 hp => ?_)
  obtain ⟨k, hk3, rfl, ⟨mM, fsM, sM⟩, hM⟩ := hp
  refine g_istore (n := 189) (ll1 := [some (.ref b0), some (.ref a), some (.ref (a + 506)), some (.ref (a + 524)), some (.ref (a + 525)), some (.int (nI i)), some (.int (nI k)), none, none]) hC dL_law_187 rfl ?_
  refine g_aload_n (n := 190) hC rfl dL_law_189 ?_
  refine g_aload_n (n := 191) hC rfl dL_law_190 ?_
  refine g_iload (n := 193) hC rfl dL_law_191 ?_
  refine g_iconst (n := 194) (v := (nI 1)) hC (by decide) dL_law_193 ?_
  refine g_iaddN (n := 195) hC dL_law_194 ?_
  refine g_sld (n := 196) (j := i + 1) hC hS9 rfl (by omega) (by omega) dL_law_195 ?_
  refine g_aload_n (n := 197) hC rfl dL_law_196 ?_
  refine g_iload (n := 199) hC rfl dL_law_197 ?_
  refine g_iconst (n := 200) (v := (nI 2)) hC (by decide) dL_law_199 ?_
  refine g_iaddN (n := 201) hC dL_law_200 ?_
  refine g_sld (n := 202) (j := i + 2) hC hS9 rfl (by omega) (by omega) dL_law_201 ?_
  refine g_aload_n (n := 203) hC rfl dL_law_202 ?_
  refine g_iload (n := 205) hC rfl dL_law_203 ?_
  refine g_iconst (n := 206) (v := (nI 3)) hC (by decide) dL_law_205 ?_
  refine g_iaddN (n := 207) hC dL_law_206 ?_
  refine g_sld (n := 208) (j := i + 3) hC hS9 rfl (by omega) (by omega) dL_law_207 ?_
  refine g_callV (r := []) hC gv_L_106 hM mM sM rfl (by decide) (by decide) rfl rfl (Nat.le_of_ble_eq_true rfl) ⟨by show k9 + 1 ≤ 601024; omega, by show n9 + 7 ≤ 7293034; omega⟩ dL_law_208 (fun rv z2 L2 σ2 hp => ?_)
  obtain ⟨⟨u, ⟨vv, rfl, eu⟩, hout⟩, hI2⟩ := hp
  refine g_istore (n := 213) (ll1 := [some (.ref b0), some (.ref a), some (.ref (a + 506)), some (.ref (a + 524)), some (.ref (a + 525)), some (.int (nI i)), some (.int (nI k)), some (.int vv), none]) hC dL_law_211 rfl ?_
  refine g_aload_n (n := 214) hC rfl dL_law_213 ?_
  obtain ⟨_, ⟨mM2, fs2, sM2⟩, hS2⟩ := wI_S hI2
  refine g_cV (n := 217) hC gv_L_107 mM2 sM2 (wI_th hI2) dL_law_214 ?_ (hroom := ⟨by show k9 + 1 ≤ 601024; omega, by show n9 + 7 ≤ 7293034; omega⟩)
  refine g_iload (n := 219) hC rfl dL_law_217 ?_
  refine g_icmp_eq (n := 222) (tgt := 224) hC dL_law_219 (fun _ => ?_) (fun q9 => absurd rfl q9)
  refine g_iload (n := 226) hC rfl dL_law_224 ?_
  refine g_if_ne (n := 229) (tgt := 241) hC dL_law_226 (fun _ => ?_) (fun h0 => ?_)
  · refine g_goto (n := 1631) hC dL_law_241 ?_
    exact G.le (hb (nI k) z2 (k9 + 1) (n9 + 7) L2 σ2 hI2 (by omega) (by omega)) ⟨rfl, rfl, rfl, rfl, rfl, rfl, trivial⟩
  have hk0 : k = 0 := ni (h0.trans nI_0.symm)
  obtain ⟨f, hf, hf0⟩ := hout hk0
  refine g_aload_n (n := 230) hC rfl dL_law_229 ?_
  refine g_iconst (n := 231) (v := (nI 0)) hC (by decide) dL_law_230 ?_
  refine g_lald (n := 232) (j := 0) (f := f) hC hS2.1.1 hf rfl (by omega) (by omega) dL_law_231 ?_
  refine g_iload (n := 234) hC rfl dL_law_232 ?_
  refine g_i2l (n := 235) (v := vv.toInt64) hC rfl dL_law_234 ?_
  refine g_lcmp_eq (n := 239) (tgt := 241) hC dL_law_235 dL_law_236 (fun _ => ?_) (fun q9 => absurd (hf0.trans eu) q9)
  refine g_goto (n := 1631) hC dL_law_241 ?_
  exact G.le (hb (nI k) z2 (k9 + 1) (n9 + 7) L2 σ2 hI2 (by omega) (by omega)) ⟨rfl, rfl, rfl, rfl, rfl, rfl, trivial⟩

set_option maxRecDepth 20000 in
theorem LC_setRule {K : GK} {Γ : GX} {Po : GP} {mn : String} {b0 len : Nat} {xs : Nat → Int32} (hC : gC K Γ cL_law 9 RL mn 14 601024 7293034 (some .boolean) Po) (hZ9 : gCZ K Γ) (hS9 : gSc Γ b0 len xs) (hlen : len ≤ 2048) {i a z k9 n9 : Nat} {L : List Nat} {σ : GS} {th : Int32} (hi : i + 4 ≤ len) (hI : wI K a th z L σ) (hk : k9 ≤ 600 + i) (hn : n9 ≤ 30000 + 7 * i) (hb : ∀ (th9 : Int32) (z9 kk9 nn9 : Nat) (L9 : List Nat) (σ9 : GS), wI K a th9 z9 L9 σ9 → kk9 ≤ 604 + i → nn9 ≤ 30028 + 7 * i → G K Γ (z9, kk9, nn9, L9) σ9 1631 [some (.ref b0), some (.ref a), some (.ref (a + 506)), some (.ref (a + 524)), some (.ref (a + 525)), some (.int (nI i)), none, none, none] []) : G K Γ (z, k9, n9, L) σ 244 [some (.ref b0), some (.ref a), some (.ref (a + 506)), some (.ref (a + 524)), some (.ref (a + 525)), some (.int (nI i)), none, none, none] [] := by
  obtain ⟨⟨ma, fsa, sa⟩, ⟨mM0, fsM0, sM0⟩, _⟩ := wI_S hI
  refine g_aload_n (n := 245) hC rfl dL_law_244 ?_
  refine g_aload_n (n := 246) hC rfl dL_law_245 ?_
  refine g_iload (n := 248) hC rfl dL_law_246 ?_
  refine g_iconst (n := 249) (v := (nI 1)) hC (by decide) dL_law_248 ?_
  refine g_iaddN (n := 250) hC dL_law_249 ?_
  refine g_sld (n := 251) (j := i + 1) hC hS9 rfl (by omega) (by omega) dL_law_250 ?_
  refine g_aload_n (n := 252) hC rfl dL_law_251 ?_
  refine g_callW (r := []) hC hZ9 gw_L_110 (C_setRule K hI (xs (i + 1))) (by decide) (by decide) rfl rfl (Nat.le_of_ble_eq_true rfl) ⟨by show k9 + 1 ≤ 601024; omega, by show n9 + 7 ≤ 7293034; omega⟩ dL_law_252 (fun rv z1 L1 σ1 hp => ?_)
  obtain ⟨k, hk3, rfl, ⟨mM, fsM, sM⟩, hM⟩ := hp
  refine g_istore (n := 257) (ll1 := [some (.ref b0), some (.ref a), some (.ref (a + 506)), some (.ref (a + 524)), some (.ref (a + 525)), some (.int (nI i)), some (.int (nI k)), none, none]) hC dL_law_255 rfl ?_
  refine g_aload_n (n := 258) hC rfl dL_law_257 ?_
  refine g_aload_n (n := 259) hC rfl dL_law_258 ?_
  refine g_iload (n := 261) hC rfl dL_law_259 ?_
  refine g_iconst (n := 262) (v := (nI 1)) hC (by decide) dL_law_261 ?_
  refine g_iaddN (n := 263) hC dL_law_262 ?_
  refine g_sld (n := 264) (j := i + 1) hC hS9 rfl (by omega) (by omega) dL_law_263 ?_
  refine g_callV (r := []) hC gv_L_113 hM mM sM rfl (by decide) (by decide) rfl rfl (Nat.le_of_ble_eq_true rfl) ⟨by show k9 + 1 ≤ 601024; omega, by show n9 + 7 ≤ 7293034; omega⟩ dL_law_264 (fun rv z2 L2 σ2 hp => ?_)
  obtain ⟨⟨u, ⟨vv, rfl, eu⟩, hout⟩, hI2⟩ := hp
  refine g_istore (n := 269) (ll1 := [some (.ref b0), some (.ref a), some (.ref (a + 506)), some (.ref (a + 524)), some (.ref (a + 525)), some (.int (nI i)), some (.int (nI k)), some (.int vv), none]) hC dL_law_267 rfl ?_
  refine g_aload_n (n := 270) hC rfl dL_law_269 ?_
  obtain ⟨_, ⟨mM2, fs2, sM2⟩, hS2⟩ := wI_S hI2
  refine g_cV (n := 273) hC gv_L_107 mM2 sM2 (wI_th hI2) dL_law_270 ?_ (hroom := ⟨by show k9 + 1 ≤ 601024; omega, by show n9 + 7 ≤ 7293034; omega⟩)
  refine g_iload (n := 275) hC rfl dL_law_273 ?_
  refine g_icmp_eq (n := 278) (tgt := 280) hC dL_law_275 (fun _ => ?_) (fun q9 => absurd rfl q9)
  refine g_iload (n := 282) hC rfl dL_law_280 ?_
  refine g_if_ne (n := 285) (tgt := 297) hC dL_law_282 (fun _ => ?_) (fun h0 => ?_)
  · refine g_goto (n := 1631) hC dL_law_297 ?_
    exact G.le (hb (nI k) z2 (k9 + 1) (n9 + 7) L2 σ2 hI2 (by omega) (by omega)) ⟨rfl, rfl, rfl, rfl, rfl, rfl, trivial⟩
  have hk0 : k = 0 := ni (h0.trans nI_0.symm)
  obtain ⟨f, hf, hf0⟩ := hout hk0
  refine g_aload_n (n := 286) hC rfl dL_law_285 ?_
  refine g_iconst (n := 287) (v := (nI 0)) hC (by decide) dL_law_286 ?_
  refine g_lald (n := 288) (j := 0) (f := f) hC hS2.1.1 hf rfl (by omega) (by omega) dL_law_287 ?_
  refine g_iload (n := 290) hC rfl dL_law_288 ?_
  refine g_i2l (n := 291) (v := vv.toInt64) hC rfl dL_law_290 ?_
  refine g_lcmp_eq (n := 295) (tgt := 297) hC dL_law_291 dL_law_292 (fun _ => ?_) (fun q9 => absurd (hf0.trans eu) q9)
  refine g_goto (n := 1631) hC dL_law_297 ?_
  exact G.le (hb (nI k) z2 (k9 + 1) (n9 + 7) L2 σ2 hI2 (by omega) (by omega)) ⟨rfl, rfl, rfl, rfl, rfl, rfl, trivial⟩

set_option maxRecDepth 20000 in
theorem LC_setBonus {K : GK} {Γ : GX} {Po : GP} {mn : String} {b0 len : Nat} {xs : Nat → Int32} (hC : gC K Γ cL_law 9 RL mn 14 601024 7293034 (some .boolean) Po) (hZ9 : gCZ K Γ) (hS9 : gSc Γ b0 len xs) (hlen : len ≤ 2048) {i a z k9 n9 : Nat} {L : List Nat} {σ : GS} {th : Int32} (hi : i + 4 ≤ len) (hI : wI K a th z L σ) (hk : k9 ≤ 600 + i) (hn : n9 ≤ 30000 + 7 * i) (hb : ∀ (th9 : Int32) (z9 kk9 nn9 : Nat) (L9 : List Nat) (σ9 : GS), wI K a th9 z9 L9 σ9 → kk9 ≤ 604 + i → nn9 ≤ 30028 + 7 * i → G K Γ (z9, kk9, nn9, L9) σ9 1631 [some (.ref b0), some (.ref a), some (.ref (a + 506)), some (.ref (a + 524)), some (.ref (a + 525)), some (.int (nI i)), none, none, none] []) : G K Γ (z, k9, n9, L) σ 300 [some (.ref b0), some (.ref a), some (.ref (a + 506)), some (.ref (a + 524)), some (.ref (a + 525)), some (.int (nI i)), none, none, none] [] := by
  obtain ⟨⟨ma, fsa, sa⟩, ⟨mM0, fsM0, sM0⟩, _⟩ := wI_S hI
  refine g_aload_n (n := 301) hC rfl dL_law_300 ?_
  refine g_aload_n (n := 302) hC rfl dL_law_301 ?_
  refine g_iload (n := 304) hC rfl dL_law_302 ?_
  refine g_iconst (n := 305) (v := (nI 1)) hC (by decide) dL_law_304 ?_
  refine g_iaddN (n := 306) hC dL_law_305 ?_
  refine g_sld (n := 307) (j := i + 1) hC hS9 rfl (by omega) (by omega) dL_law_306 ?_
  refine g_aload_n (n := 308) hC rfl dL_law_307 ?_
  refine g_iload (n := 310) hC rfl dL_law_308 ?_
  refine g_iconst (n := 311) (v := (nI 2)) hC (by decide) dL_law_310 ?_
  refine g_iaddN (n := 312) hC dL_law_311 ?_
  refine g_sld (n := 313) (j := i + 2) hC hS9 rfl (by omega) (by omega) dL_law_312 ?_
  refine g_aload_n (n := 314) hC rfl dL_law_313 ?_
  refine g_callW (r := []) hC hZ9 gw_L_114 (C_setBonus K hI (xs (i + 1)) (xs (i + 2))) (by decide) (by decide) rfl rfl (Nat.le_of_ble_eq_true rfl) ⟨by show k9 + 1 ≤ 601024; omega, by show n9 + 7 ≤ 7293034; omega⟩ dL_law_314 (fun rv z1 L1 σ1 hp => ?_)
  obtain ⟨k, hk3, rfl, ⟨mM, fsM, sM⟩, hM⟩ := hp
  refine g_istore (n := 319) (ll1 := [some (.ref b0), some (.ref a), some (.ref (a + 506)), some (.ref (a + 524)), some (.ref (a + 525)), some (.int (nI i)), some (.int (nI k)), none, none]) hC dL_law_317 rfl ?_
  refine g_aload_n (n := 320) hC rfl dL_law_319 ?_
  refine g_aload_n (n := 321) hC rfl dL_law_320 ?_
  refine g_iload (n := 323) hC rfl dL_law_321 ?_
  refine g_iconst (n := 324) (v := (nI 1)) hC (by decide) dL_law_323 ?_
  refine g_iaddN (n := 325) hC dL_law_324 ?_
  refine g_sld (n := 326) (j := i + 1) hC hS9 rfl (by omega) (by omega) dL_law_325 ?_
  refine g_aload_n (n := 327) hC rfl dL_law_326 ?_
  refine g_iload (n := 329) hC rfl dL_law_327 ?_
  refine g_iconst (n := 330) (v := (nI 2)) hC (by decide) dL_law_329 ?_
  refine g_iaddN (n := 331) hC dL_law_330 ?_
  refine g_sld (n := 332) (j := i + 2) hC hS9 rfl (by omega) (by omega) dL_law_331 ?_
  refine g_callV (r := []) hC gv_L_117 hM mM sM rfl (by decide) (by decide) rfl rfl (Nat.le_of_ble_eq_true rfl) ⟨by show k9 + 1 ≤ 601024; omega, by show n9 + 7 ≤ 7293034; omega⟩ dL_law_332 (fun rv z2 L2 σ2 hp => ?_)
  obtain ⟨⟨u, ⟨vv, rfl, eu⟩, hout⟩, hI2⟩ := hp
  refine g_istore (n := 337) (ll1 := [some (.ref b0), some (.ref a), some (.ref (a + 506)), some (.ref (a + 524)), some (.ref (a + 525)), some (.int (nI i)), some (.int (nI k)), some (.int vv), none]) hC dL_law_335 rfl ?_
  refine g_aload_n (n := 338) hC rfl dL_law_337 ?_
  obtain ⟨_, ⟨mM2, fs2, sM2⟩, hS2⟩ := wI_S hI2
  refine g_cV (n := 341) hC gv_L_107 mM2 sM2 (wI_th hI2) dL_law_338 ?_ (hroom := ⟨by show k9 + 1 ≤ 601024; omega, by show n9 + 7 ≤ 7293034; omega⟩)
  refine g_iload (n := 343) hC rfl dL_law_341 ?_
  refine g_icmp_eq (n := 346) (tgt := 348) hC dL_law_343 (fun _ => ?_) (fun q9 => absurd rfl q9)
  refine g_iload (n := 350) hC rfl dL_law_348 ?_
  refine g_if_ne (n := 353) (tgt := 365) hC dL_law_350 (fun _ => ?_) (fun h0 => ?_)
  · refine g_goto (n := 1631) hC dL_law_365 ?_
    exact G.le (hb (nI k) z2 (k9 + 1) (n9 + 7) L2 σ2 hI2 (by omega) (by omega)) ⟨rfl, rfl, rfl, rfl, rfl, rfl, trivial⟩
  have hk0 : k = 0 := ni (h0.trans nI_0.symm)
  obtain ⟨f, hf, hf0⟩ := hout hk0
  refine g_aload_n (n := 354) hC rfl dL_law_353 ?_
  refine g_iconst (n := 355) (v := (nI 0)) hC (by decide) dL_law_354 ?_
  refine g_lald (n := 356) (j := 0) (f := f) hC hS2.1.1 hf rfl (by omega) (by omega) dL_law_355 ?_
  refine g_iload (n := 358) hC rfl dL_law_356 ?_
  refine g_i2l (n := 359) (v := vv.toInt64) hC rfl dL_law_358 ?_
  refine g_lcmp_eq (n := 363) (tgt := 365) hC dL_law_359 dL_law_360 (fun _ => ?_) (fun q9 => absurd (hf0.trans eu) q9)
  refine g_goto (n := 1631) hC dL_law_365 ?_
  exact G.le (hb (nI k) z2 (k9 + 1) (n9 + 7) L2 σ2 hI2 (by omega) (by omega)) ⟨rfl, rfl, rfl, rfl, rfl, rfl, trivial⟩

set_option maxRecDepth 20000 in
theorem LC_play {K : GK} {Γ : GX} {Po : GP} {mn : String} {b0 len : Nat} {xs : Nat → Int32} (hC : gC K Γ cL_law 9 RL mn 14 601024 7293034 (some .boolean) Po) (hZ9 : gCZ K Γ) (hS9 : gSc Γ b0 len xs) (hlen : len ≤ 2048) {i a z k9 n9 : Nat} {L : List Nat} {σ : GS} {th : Int32} (hi : i + 4 ≤ len) (hI : wI K a th z L σ) (hk : k9 ≤ 600 + i) (hn : n9 ≤ 30000 + 7 * i) (hb : ∀ (th9 : Int32) (z9 kk9 nn9 : Nat) (L9 : List Nat) (σ9 : GS), wI K a th9 z9 L9 σ9 → kk9 ≤ 604 + i → nn9 ≤ 30028 + 7 * i → G K Γ (z9, kk9, nn9, L9) σ9 1631 [some (.ref b0), some (.ref a), some (.ref (a + 506)), some (.ref (a + 524)), some (.ref (a + 525)), some (.int (nI i)), none, none, none] []) : G K Γ (z, k9, n9, L) σ 368 [some (.ref b0), some (.ref a), some (.ref (a + 506)), some (.ref (a + 524)), some (.ref (a + 525)), some (.int (nI i)), none, none, none] [] := by
  obtain ⟨⟨ma, fsa, sa⟩, ⟨mM0, fsM0, sM0⟩, _⟩ := wI_S hI
  refine g_aload_n (n := 369) hC rfl dL_law_368 ?_
  refine g_aload_n (n := 370) hC rfl dL_law_369 ?_
  refine g_iload (n := 372) hC rfl dL_law_370 ?_
  refine g_iconst (n := 373) (v := (nI 1)) hC (by decide) dL_law_372 ?_
  refine g_iaddN (n := 374) hC dL_law_373 ?_
  refine g_sld (n := 375) (j := i + 1) hC hS9 rfl (by omega) (by omega) dL_law_374 ?_
  refine g_aload_n (n := 376) hC rfl dL_law_375 ?_
  refine g_iload (n := 378) hC rfl dL_law_376 ?_
  refine g_iconst (n := 379) (v := (nI 2)) hC (by decide) dL_law_378 ?_
  refine g_iaddN (n := 380) hC dL_law_379 ?_
  refine g_sld (n := 381) (j := i + 2) hC hS9 rfl (by omega) (by omega) dL_law_380 ?_
  refine g_aload_n (n := 382) hC rfl dL_law_381 ?_
  refine g_callW (r := []) hC hZ9 gw_L_118 (C_play K hI (xs (i + 1)) (xs (i + 2))) (by decide) (by decide) rfl rfl (Nat.le_of_ble_eq_true rfl) ⟨by show k9 + 1 ≤ 601024; omega, by show n9 + 7 ≤ 7293034; omega⟩ dL_law_382 (fun rv z1 L1 σ1 hp => ?_)
  obtain ⟨k, hk3, rfl, ⟨mM, fsM, sM⟩, hM⟩ := hp
  refine g_istore (n := 387) (ll1 := [some (.ref b0), some (.ref a), some (.ref (a + 506)), some (.ref (a + 524)), some (.ref (a + 525)), some (.int (nI i)), some (.int (nI k)), none, none]) hC dL_law_385 rfl ?_
  refine g_aload_n (n := 388) hC rfl dL_law_387 ?_
  refine g_aload_n (n := 389) hC rfl dL_law_388 ?_
  refine g_iload (n := 391) hC rfl dL_law_389 ?_
  refine g_iconst (n := 392) (v := (nI 1)) hC (by decide) dL_law_391 ?_
  refine g_iaddN (n := 393) hC dL_law_392 ?_
  refine g_sld (n := 394) (j := i + 1) hC hS9 rfl (by omega) (by omega) dL_law_393 ?_
  refine g_aload_n (n := 395) hC rfl dL_law_394 ?_
  refine g_iload (n := 397) hC rfl dL_law_395 ?_
  refine g_iconst (n := 398) (v := (nI 2)) hC (by decide) dL_law_397 ?_
  refine g_iaddN (n := 399) hC dL_law_398 ?_
  refine g_sld (n := 400) (j := i + 2) hC hS9 rfl (by omega) (by omega) dL_law_399 ?_
  refine g_callV (r := []) hC gv_L_120 hM mM sM rfl (by decide) (by decide) rfl rfl (Nat.le_of_ble_eq_true rfl) ⟨by show k9 + 1 ≤ 601024; omega, by show n9 + 7 ≤ 7293034; omega⟩ dL_law_400 (fun rv z2 L2 σ2 hp => ?_)
  obtain ⟨⟨u, ⟨vv, rfl, eu⟩, hout⟩, hI2⟩ := hp
  refine g_istore (n := 405) (ll1 := [some (.ref b0), some (.ref a), some (.ref (a + 506)), some (.ref (a + 524)), some (.ref (a + 525)), some (.int (nI i)), some (.int (nI k)), some (.int vv), none]) hC dL_law_403 rfl ?_
  refine g_aload_n (n := 406) hC rfl dL_law_405 ?_
  obtain ⟨_, ⟨mM2, fs2, sM2⟩, hS2⟩ := wI_S hI2
  refine g_cV (n := 409) hC gv_L_107 mM2 sM2 (wI_th hI2) dL_law_406 ?_ (hroom := ⟨by show k9 + 1 ≤ 601024; omega, by show n9 + 7 ≤ 7293034; omega⟩)
  refine g_iload (n := 411) hC rfl dL_law_409 ?_
  refine g_icmp_eq (n := 414) (tgt := 416) hC dL_law_411 (fun _ => ?_) (fun q9 => absurd rfl q9)
  refine g_iload (n := 418) hC rfl dL_law_416 ?_
  refine g_if_ne (n := 421) (tgt := 433) hC dL_law_418 (fun _ => ?_) (fun h0 => ?_)
  · refine g_goto (n := 1631) hC dL_law_433 ?_
    exact G.le (hb (nI k) z2 (k9 + 1) (n9 + 7) L2 σ2 hI2 (by omega) (by omega)) ⟨rfl, rfl, rfl, rfl, rfl, rfl, trivial⟩
  have hk0 : k = 0 := ni (h0.trans nI_0.symm)
  obtain ⟨f, hf, hf0⟩ := hout hk0
  refine g_aload_n (n := 422) hC rfl dL_law_421 ?_
  refine g_iconst (n := 423) (v := (nI 0)) hC (by decide) dL_law_422 ?_
  refine g_lald (n := 424) (j := 0) (f := f) hC hS2.1.1 hf rfl (by omega) (by omega) dL_law_423 ?_
  refine g_iload (n := 426) hC rfl dL_law_424 ?_
  refine g_i2l (n := 427) (v := vv.toInt64) hC rfl dL_law_426 ?_
  refine g_lcmp_eq (n := 431) (tgt := 433) hC dL_law_427 dL_law_428 (fun _ => ?_) (fun q9 => absurd (hf0.trans eu) q9)
  refine g_goto (n := 1631) hC dL_law_433 ?_
  exact G.le (hb (nI k) z2 (k9 + 1) (n9 + 7) L2 σ2 hI2 (by omega) (by omega)) ⟨rfl, rfl, rfl, rfl, rfl, rfl, trivial⟩

set_option maxRecDepth 20000 in
theorem LC_undo {K : GK} {Γ : GX} {Po : GP} {mn : String} {b0 len : Nat} {xs : Nat → Int32} (hC : gC K Γ cL_law 9 RL mn 14 601024 7293034 (some .boolean) Po) (hZ9 : gCZ K Γ) (hS9 : gSc Γ b0 len xs) (hlen : len ≤ 2048) {i a z k9 n9 : Nat} {L : List Nat} {σ : GS} {th : Int32} (hi : i + 4 ≤ len) (hI : wI K a th z L σ) (hk : k9 ≤ 600 + i) (hn : n9 ≤ 30000 + 7 * i) (hb : ∀ (th9 : Int32) (z9 kk9 nn9 : Nat) (L9 : List Nat) (σ9 : GS), wI K a th9 z9 L9 σ9 → kk9 ≤ 604 + i → nn9 ≤ 30028 + 7 * i → G K Γ (z9, kk9, nn9, L9) σ9 1631 [some (.ref b0), some (.ref a), some (.ref (a + 506)), some (.ref (a + 524)), some (.ref (a + 525)), some (.int (nI i)), none, none, none] []) : G K Γ (z, k9, n9, L) σ 436 [some (.ref b0), some (.ref a), some (.ref (a + 506)), some (.ref (a + 524)), some (.ref (a + 525)), some (.int (nI i)), none, none, none] [] := by
  obtain ⟨⟨ma, fsa, sa⟩, ⟨mM0, fsM0, sM0⟩, _⟩ := wI_S hI
  refine g_aload_n (n := 437) hC rfl dL_law_436 ?_
  refine g_aload_n (n := 438) hC rfl dL_law_437 ?_
  refine g_callW (r := []) hC hZ9 gw_L_121 (C_undo K hI) (by decide) (by decide) rfl rfl (Nat.le_of_ble_eq_true rfl) ⟨by show k9 + 1 ≤ 601024; omega, by show n9 + 7 ≤ 7293034; omega⟩ dL_law_438 (fun rv z1 L1 σ1 hp => ?_)
  obtain ⟨k, hk3, rfl, ⟨mM, fsM, sM⟩, hM⟩ := hp
  refine g_istore (n := 443) (ll1 := [some (.ref b0), some (.ref a), some (.ref (a + 506)), some (.ref (a + 524)), some (.ref (a + 525)), some (.int (nI i)), some (.int (nI k)), none, none]) hC dL_law_441 rfl ?_
  refine g_aload_n (n := 444) hC rfl dL_law_443 ?_
  refine g_callV (r := []) hC gv_L_124 hM mM sM rfl (by decide) (by decide) rfl rfl (Nat.le_of_ble_eq_true rfl) ⟨by show k9 + 1 ≤ 601024; omega, by show n9 + 7 ≤ 7293034; omega⟩ dL_law_444 (fun rv z2 L2 σ2 hp => ?_)
  obtain ⟨⟨u, ⟨vv, rfl, eu⟩, hout⟩, hI2⟩ := hp
  refine g_istore (n := 449) (ll1 := [some (.ref b0), some (.ref a), some (.ref (a + 506)), some (.ref (a + 524)), some (.ref (a + 525)), some (.int (nI i)), some (.int (nI k)), some (.int vv), none]) hC dL_law_447 rfl ?_
  refine g_aload_n (n := 450) hC rfl dL_law_449 ?_
  obtain ⟨_, ⟨mM2, fs2, sM2⟩, hS2⟩ := wI_S hI2
  refine g_cV (n := 453) hC gv_L_107 mM2 sM2 (wI_th hI2) dL_law_450 ?_ (hroom := ⟨by show k9 + 1 ≤ 601024; omega, by show n9 + 7 ≤ 7293034; omega⟩)
  refine g_iload (n := 455) hC rfl dL_law_453 ?_
  refine g_icmp_eq (n := 458) (tgt := 460) hC dL_law_455 (fun _ => ?_) (fun q9 => absurd rfl q9)
  refine g_iload (n := 462) hC rfl dL_law_460 ?_
  refine g_if_ne (n := 465) (tgt := 477) hC dL_law_462 (fun _ => ?_) (fun h0 => ?_)
  · refine g_goto (n := 1631) hC dL_law_477 ?_
    exact G.le (hb (nI k) z2 (k9 + 1) (n9 + 7) L2 σ2 hI2 (by omega) (by omega)) ⟨rfl, rfl, rfl, rfl, rfl, rfl, trivial⟩
  have hk0 : k = 0 := ni (h0.trans nI_0.symm)
  obtain ⟨f, hf, hf0⟩ := hout hk0
  refine g_aload_n (n := 466) hC rfl dL_law_465 ?_
  refine g_iconst (n := 467) (v := (nI 0)) hC (by decide) dL_law_466 ?_
  refine g_lald (n := 468) (j := 0) (f := f) hC hS2.1.1 hf rfl (by omega) (by omega) dL_law_467 ?_
  refine g_iload (n := 470) hC rfl dL_law_468 ?_
  refine g_i2l (n := 471) (v := vv.toInt64) hC rfl dL_law_470 ?_
  refine g_lcmp_eq (n := 475) (tgt := 477) hC dL_law_471 dL_law_472 (fun _ => ?_) (fun q9 => absurd (hf0.trans eu) q9)
  refine g_goto (n := 1631) hC dL_law_477 ?_
  exact G.le (hb (nI k) z2 (k9 + 1) (n9 + 7) L2 σ2 hI2 (by omega) (by omega)) ⟨rfl, rfl, rfl, rfl, rfl, rfl, trivial⟩

set_option maxRecDepth 20000 in
theorem LC_isOver {K : GK} {Γ : GX} {Po : GP} {mn : String} {b0 len : Nat} {xs : Nat → Int32} (hC : gC K Γ cL_law 9 RL mn 14 601024 7293034 (some .boolean) Po) (hZ9 : gCZ K Γ) (hS9 : gSc Γ b0 len xs) (hlen : len ≤ 2048) {i a z k9 n9 : Nat} {L : List Nat} {σ : GS} {th : Int32} (hi : i + 4 ≤ len) (hI : wI K a th z L σ) (hk : k9 ≤ 600 + i) (hn : n9 ≤ 30000 + 7 * i) (hb : ∀ (th9 : Int32) (z9 kk9 nn9 : Nat) (L9 : List Nat) (σ9 : GS), wI K a th9 z9 L9 σ9 → kk9 ≤ 604 + i → nn9 ≤ 30028 + 7 * i → G K Γ (z9, kk9, nn9, L9) σ9 1631 [some (.ref b0), some (.ref a), some (.ref (a + 506)), some (.ref (a + 524)), some (.ref (a + 525)), some (.int (nI i)), none, none, none] []) : G K Γ (z, k9, n9, L) σ 480 [some (.ref b0), some (.ref a), some (.ref (a + 506)), some (.ref (a + 524)), some (.ref (a + 525)), some (.int (nI i)), none, none, none] [] := by
  obtain ⟨⟨ma, fsa, sa⟩, ⟨mM0, fsM0, sM0⟩, _⟩ := wI_S hI
  obtain ⟨v, σ2, h1, h2, hI2⟩ := C_isOver K hI
  refine g_aload_n (n := 481) hC rfl dL_law_480 ?_
  refine g_cV (n := 484) hC gv_L_125 ma sa h1 dL_law_481 ?_ (hroom := ⟨by show k9 ≤ 601024; omega, by show n9 ≤ 7293034; omega⟩)
  refine g_aload_n (n := 485) hC rfl dL_law_484 ?_
  refine g_cV (n := 488) hC gv_L_129 mM0 sM0 h2 dL_law_485 ?_ (hroom := ⟨by show k9 ≤ 601024; omega, by show n9 ≤ 7293034; omega⟩)
  refine g_icmp_eq (n := 491) (tgt := 1631) hC dL_law_488 (fun _ => ?_) (fun q9 => absurd rfl q9)
  exact G.le (hb (nI 0) z (k9) (n9) L σ2 hI2 (by omega) (by omega)) ⟨rfl, rfl, rfl, rfl, rfl, rfl, trivial⟩

set_option maxRecDepth 20000 in
theorem LC_cell {K : GK} {Γ : GX} {Po : GP} {mn : String} {b0 len : Nat} {xs : Nat → Int32} (hC : gC K Γ cL_law 9 RL mn 14 601024 7293034 (some .boolean) Po) (hZ9 : gCZ K Γ) (hS9 : gSc Γ b0 len xs) (hlen : len ≤ 2048) {i a z k9 n9 : Nat} {L : List Nat} {σ : GS} {th : Int32} (hi : i + 4 ≤ len) (hI : wI K a th z L σ) (hk : k9 ≤ 600 + i) (hn : n9 ≤ 30000 + 7 * i) (hb : ∀ (th9 : Int32) (z9 kk9 nn9 : Nat) (L9 : List Nat) (σ9 : GS), wI K a th9 z9 L9 σ9 → kk9 ≤ 604 + i → nn9 ≤ 30028 + 7 * i → G K Γ (z9, kk9, nn9, L9) σ9 1631 [some (.ref b0), some (.ref a), some (.ref (a + 506)), some (.ref (a + 524)), some (.ref (a + 525)), some (.int (nI i)), none, none, none] []) : G K Γ (z, k9, n9, L) σ 493 [some (.ref b0), some (.ref a), some (.ref (a + 506)), some (.ref (a + 524)), some (.ref (a + 525)), some (.int (nI i)), none, none, none] [] := by
  obtain ⟨⟨ma, fsa, sa⟩, ⟨mM0, fsM0, sM0⟩, _⟩ := wI_S hI
  refine g_aload_n (n := 494) hC rfl dL_law_493 ?_
  refine g_aload_n (n := 495) hC rfl dL_law_494 ?_
  refine g_iload (n := 497) hC rfl dL_law_495 ?_
  refine g_iconst (n := 498) (v := (nI 1)) hC (by decide) dL_law_497 ?_
  refine g_iaddN (n := 499) hC dL_law_498 ?_
  refine g_sld (n := 500) (j := i + 1) hC hS9 rfl (by omega) (by omega) dL_law_499 ?_
  refine g_aload_n (n := 501) hC rfl dL_law_500 ?_
  refine g_iload (n := 503) hC rfl dL_law_501 ?_
  refine g_iconst (n := 504) (v := (nI 2)) hC (by decide) dL_law_503 ?_
  refine g_iaddN (n := 505) hC dL_law_504 ?_
  refine g_sld (n := 506) (j := i + 2) hC hS9 rfl (by omega) (by omega) dL_law_505 ?_
  refine g_aload_n (n := 507) hC rfl dL_law_506 ?_
  refine g_callW (r := []) hC hZ9 gw_L_130 (C_cell K hI (xs (i + 1)) (xs (i + 2))) (by decide) (by decide) rfl rfl (Nat.le_of_ble_eq_true rfl) ⟨by show k9 + 1 ≤ 601024; omega, by show n9 + 7 ≤ 7293034; omega⟩ dL_law_507 (fun rv z1 L1 σ1 hp => ?_)
  obtain ⟨k, hk3, rfl, ⟨mM, fsM, sM⟩, hM⟩ := hp
  refine g_istore (n := 512) (ll1 := [some (.ref b0), some (.ref a), some (.ref (a + 506)), some (.ref (a + 524)), some (.ref (a + 525)), some (.int (nI i)), some (.int (nI k)), none, none]) hC dL_law_510 rfl ?_
  refine g_aload_n (n := 513) hC rfl dL_law_512 ?_
  refine g_aload_n (n := 514) hC rfl dL_law_513 ?_
  refine g_iload (n := 516) hC rfl dL_law_514 ?_
  refine g_iconst (n := 517) (v := (nI 1)) hC (by decide) dL_law_516 ?_
  refine g_iaddN (n := 518) hC dL_law_517 ?_
  refine g_sld (n := 519) (j := i + 1) hC hS9 rfl (by omega) (by omega) dL_law_518 ?_
  refine g_aload_n (n := 520) hC rfl dL_law_519 ?_
  refine g_iload (n := 522) hC rfl dL_law_520 ?_
  refine g_iconst (n := 523) (v := (nI 2)) hC (by decide) dL_law_522 ?_
  refine g_iaddN (n := 524) hC dL_law_523 ?_
  refine g_sld (n := 525) (j := i + 2) hC hS9 rfl (by omega) (by omega) dL_law_524 ?_
  refine g_callV (r := []) hC gv_L_132 hM mM sM rfl (by decide) (by decide) rfl rfl (Nat.le_of_ble_eq_true rfl) ⟨by show k9 + 1 ≤ 601024; omega, by show n9 + 7 ≤ 7293034; omega⟩ dL_law_525 (fun rv z2 L2 σ2 hp => ?_)
  obtain ⟨⟨u, ⟨vv, rfl, eu⟩, hout⟩, hI2⟩ := hp
  refine g_istore (n := 530) (ll1 := [some (.ref b0), some (.ref a), some (.ref (a + 506)), some (.ref (a + 524)), some (.ref (a + 525)), some (.int (nI i)), some (.int (nI k)), some (.int vv), none]) hC dL_law_528 rfl ?_
  refine g_aload_n (n := 531) hC rfl dL_law_530 ?_
  obtain ⟨_, ⟨mM2, fs2, sM2⟩, hS2⟩ := wI_S hI2
  refine g_cV (n := 534) hC gv_L_107 mM2 sM2 (wI_th hI2) dL_law_531 ?_ (hroom := ⟨by show k9 + 1 ≤ 601024; omega, by show n9 + 7 ≤ 7293034; omega⟩)
  refine g_iload (n := 536) hC rfl dL_law_534 ?_
  refine g_icmp_eq (n := 539) (tgt := 541) hC dL_law_536 (fun _ => ?_) (fun q9 => absurd rfl q9)
  refine g_iload (n := 543) hC rfl dL_law_541 ?_
  refine g_if_ne (n := 546) (tgt := 558) hC dL_law_543 (fun _ => ?_) (fun h0 => ?_)
  · refine g_goto (n := 1631) hC dL_law_558 ?_
    exact G.le (hb (nI k) z2 (k9 + 1) (n9 + 7) L2 σ2 hI2 (by omega) (by omega)) ⟨rfl, rfl, rfl, rfl, rfl, rfl, trivial⟩
  have hk0 : k = 0 := ni (h0.trans nI_0.symm)
  obtain ⟨f, hf, hf0⟩ := hout hk0
  refine g_aload_n (n := 547) hC rfl dL_law_546 ?_
  refine g_iconst (n := 548) (v := (nI 0)) hC (by decide) dL_law_547 ?_
  refine g_lald (n := 549) (j := 0) (f := f) hC hS2.1.1 hf rfl (by omega) (by omega) dL_law_548 ?_
  refine g_iload (n := 551) hC rfl dL_law_549 ?_
  refine g_i2l (n := 552) (v := vv.toInt64) hC rfl dL_law_551 ?_
  refine g_lcmp_eq (n := 556) (tgt := 558) hC dL_law_552 dL_law_553 (fun _ => ?_) (fun q9 => absurd (hf0.trans eu) q9)
  refine g_goto (n := 1631) hC dL_law_558 ?_
  exact G.le (hb (nI k) z2 (k9 + 1) (n9 + 7) L2 σ2 hI2 (by omega) (by omega)) ⟨rfl, rfl, rfl, rfl, rfl, rfl, trivial⟩

set_option maxRecDepth 20000 in
theorem LC_since {K : GK} {Γ : GX} {Po : GP} {mn : String} {b0 len : Nat} {xs : Nat → Int32} (hC : gC K Γ cL_law 9 RL mn 14 601024 7293034 (some .boolean) Po) (hZ9 : gCZ K Γ) (hS9 : gSc Γ b0 len xs) (hlen : len ≤ 2048) {i a z k9 n9 : Nat} {L : List Nat} {σ : GS} {th : Int32} (hi : i + 4 ≤ len) (hI : wI K a th z L σ) (hk : k9 ≤ 600 + i) (hn : n9 ≤ 30000 + 7 * i) (hb : ∀ (th9 : Int32) (z9 kk9 nn9 : Nat) (L9 : List Nat) (σ9 : GS), wI K a th9 z9 L9 σ9 → kk9 ≤ 604 + i → nn9 ≤ 30028 + 7 * i → G K Γ (z9, kk9, nn9, L9) σ9 1631 [some (.ref b0), some (.ref a), some (.ref (a + 506)), some (.ref (a + 524)), some (.ref (a + 525)), some (.int (nI i)), none, none, none] []) : G K Γ (z, k9, n9, L) σ 561 [some (.ref b0), some (.ref a), some (.ref (a + 506)), some (.ref (a + 524)), some (.ref (a + 525)), some (.int (nI i)), none, none, none] [] := by
  obtain ⟨⟨ma, fsa, sa⟩, ⟨mM0, fsM0, sM0⟩, _⟩ := wI_S hI
  refine g_aload_n (n := 562) hC rfl dL_law_561 ?_
  refine g_aload_n (n := 563) hC rfl dL_law_562 ?_
  refine g_iload (n := 565) hC rfl dL_law_563 ?_
  refine g_iconst (n := 566) (v := (nI 1)) hC (by decide) dL_law_565 ?_
  refine g_iaddN (n := 567) hC dL_law_566 ?_
  refine g_sld (n := 568) (j := i + 1) hC hS9 rfl (by omega) (by omega) dL_law_567 ?_
  refine g_aload_n (n := 569) hC rfl dL_law_568 ?_
  refine g_iload (n := 571) hC rfl dL_law_569 ?_
  refine g_iconst (n := 572) (v := (nI 2)) hC (by decide) dL_law_571 ?_
  refine g_iaddN (n := 573) hC dL_law_572 ?_
  refine g_sld (n := 574) (j := i + 2) hC hS9 rfl (by omega) (by omega) dL_law_573 ?_
  refine g_aload_n (n := 575) hC rfl dL_law_574 ?_
  refine g_callW (r := []) hC hZ9 gw_L_133 (C_since K hI (xs (i + 1)) (xs (i + 2))) (by decide) (by decide) rfl rfl (Nat.le_of_ble_eq_true rfl) ⟨by show k9 + 1 ≤ 601024; omega, by show n9 + 7 ≤ 7293034; omega⟩ dL_law_575 (fun rv z1 L1 σ1 hp => ?_)
  obtain ⟨k, hk3, rfl, ⟨mM, fsM, sM⟩, hM⟩ := hp
  refine g_istore (n := 580) (ll1 := [some (.ref b0), some (.ref a), some (.ref (a + 506)), some (.ref (a + 524)), some (.ref (a + 525)), some (.int (nI i)), some (.int (nI k)), none, none]) hC dL_law_578 rfl ?_
  refine g_aload_n (n := 581) hC rfl dL_law_580 ?_
  refine g_aload_n (n := 582) hC rfl dL_law_581 ?_
  refine g_iload (n := 584) hC rfl dL_law_582 ?_
  refine g_iconst (n := 585) (v := (nI 1)) hC (by decide) dL_law_584 ?_
  refine g_iaddN (n := 586) hC dL_law_585 ?_
  refine g_sld (n := 587) (j := i + 1) hC hS9 rfl (by omega) (by omega) dL_law_586 ?_
  refine g_aload_n (n := 588) hC rfl dL_law_587 ?_
  refine g_iload (n := 590) hC rfl dL_law_588 ?_
  refine g_iconst (n := 591) (v := (nI 2)) hC (by decide) dL_law_590 ?_
  refine g_iaddN (n := 592) hC dL_law_591 ?_
  refine g_sld (n := 593) (j := i + 2) hC hS9 rfl (by omega) (by omega) dL_law_592 ?_
  refine g_callV (r := []) hC gv_L_135 hM mM sM rfl (by decide) (by decide) rfl rfl (Nat.le_of_ble_eq_true rfl) ⟨by show k9 + 1 ≤ 601024; omega, by show n9 + 7 ≤ 7293034; omega⟩ dL_law_593 (fun rv z2 L2 σ2 hp => ?_)
  obtain ⟨⟨u, ⟨vv, rfl, eu⟩, hout⟩, hI2⟩ := hp
  refine g_istore (n := 598) (ll1 := [some (.ref b0), some (.ref a), some (.ref (a + 506)), some (.ref (a + 524)), some (.ref (a + 525)), some (.int (nI i)), some (.int (nI k)), some (.int vv), none]) hC dL_law_596 rfl ?_
  refine g_aload_n (n := 599) hC rfl dL_law_598 ?_
  obtain ⟨_, ⟨mM2, fs2, sM2⟩, hS2⟩ := wI_S hI2
  refine g_cV (n := 602) hC gv_L_107 mM2 sM2 (wI_th hI2) dL_law_599 ?_ (hroom := ⟨by show k9 + 1 ≤ 601024; omega, by show n9 + 7 ≤ 7293034; omega⟩)
  refine g_iload (n := 604) hC rfl dL_law_602 ?_
  refine g_icmp_eq (n := 607) (tgt := 609) hC dL_law_604 (fun _ => ?_) (fun q9 => absurd rfl q9)
  refine g_iload (n := 611) hC rfl dL_law_609 ?_
  refine g_if_ne (n := 614) (tgt := 626) hC dL_law_611 (fun _ => ?_) (fun h0 => ?_)
  · refine g_goto (n := 1631) hC dL_law_626 ?_
    exact G.le (hb (nI k) z2 (k9 + 1) (n9 + 7) L2 σ2 hI2 (by omega) (by omega)) ⟨rfl, rfl, rfl, rfl, rfl, rfl, trivial⟩
  have hk0 : k = 0 := ni (h0.trans nI_0.symm)
  obtain ⟨f, hf, hf0⟩ := hout hk0
  refine g_aload_n (n := 615) hC rfl dL_law_614 ?_
  refine g_iconst (n := 616) (v := (nI 0)) hC (by decide) dL_law_615 ?_
  refine g_lald (n := 617) (j := 0) (f := f) hC hS2.1.1 hf rfl (by omega) (by omega) dL_law_616 ?_
  refine g_iload (n := 619) hC rfl dL_law_617 ?_
  refine g_i2l (n := 620) (v := vv.toInt64) hC rfl dL_law_619 ?_
  refine g_lcmp_eq (n := 624) (tgt := 626) hC dL_law_620 dL_law_621 (fun _ => ?_) (fun q9 => absurd (hf0.trans eu) q9)
  refine g_goto (n := 1631) hC dL_law_626 ?_
  exact G.le (hb (nI k) z2 (k9 + 1) (n9 + 7) L2 σ2 hI2 (by omega) (by omega)) ⟨rfl, rfl, rfl, rfl, rfl, rfl, trivial⟩

set_option maxRecDepth 20000 in
theorem LC_count {K : GK} {Γ : GX} {Po : GP} {mn : String} {b0 len : Nat} {xs : Nat → Int32} (hC : gC K Γ cL_law 9 RL mn 14 601024 7293034 (some .boolean) Po) (hZ9 : gCZ K Γ) (hS9 : gSc Γ b0 len xs) (hlen : len ≤ 2048) {i a z k9 n9 : Nat} {L : List Nat} {σ : GS} {th : Int32} (hi : i + 4 ≤ len) (hI : wI K a th z L σ) (hk : k9 ≤ 600 + i) (hn : n9 ≤ 30000 + 7 * i) (hb : ∀ (th9 : Int32) (z9 kk9 nn9 : Nat) (L9 : List Nat) (σ9 : GS), wI K a th9 z9 L9 σ9 → kk9 ≤ 604 + i → nn9 ≤ 30028 + 7 * i → G K Γ (z9, kk9, nn9, L9) σ9 1631 [some (.ref b0), some (.ref a), some (.ref (a + 506)), some (.ref (a + 524)), some (.ref (a + 525)), some (.int (nI i)), none, none, none] []) : G K Γ (z, k9, n9, L) σ 629 [some (.ref b0), some (.ref a), some (.ref (a + 506)), some (.ref (a + 524)), some (.ref (a + 525)), some (.int (nI i)), none, none, none] [] := by
  obtain ⟨⟨ma, fsa, sa⟩, ⟨mM0, fsM0, sM0⟩, _⟩ := wI_S hI
  refine g_aload_n (n := 630) hC rfl dL_law_629 ?_
  refine g_aload_n (n := 631) hC rfl dL_law_630 ?_
  refine g_iload (n := 633) hC rfl dL_law_631 ?_
  refine g_iconst (n := 634) (v := (nI 1)) hC (by decide) dL_law_633 ?_
  refine g_iaddN (n := 635) hC dL_law_634 ?_
  refine g_sld (n := 636) (j := i + 1) hC hS9 rfl (by omega) (by omega) dL_law_635 ?_
  refine g_aload_n (n := 637) hC rfl dL_law_636 ?_
  refine g_callW (r := []) hC hZ9 gw_L_136 (C_count K hI (xs (i + 1))) (by decide) (by decide) rfl rfl (Nat.le_of_ble_eq_true rfl) ⟨by show k9 + 1 ≤ 601024; omega, by show n9 + 7 ≤ 7293034; omega⟩ dL_law_637 (fun rv z1 L1 σ1 hp => ?_)
  obtain ⟨k, hk3, rfl, ⟨mM, fsM, sM⟩, hM⟩ := hp
  refine g_istore (n := 642) (ll1 := [some (.ref b0), some (.ref a), some (.ref (a + 506)), some (.ref (a + 524)), some (.ref (a + 525)), some (.int (nI i)), some (.int (nI k)), none, none]) hC dL_law_640 rfl ?_
  refine g_aload_n (n := 643) hC rfl dL_law_642 ?_
  refine g_aload_n (n := 644) hC rfl dL_law_643 ?_
  refine g_iload (n := 646) hC rfl dL_law_644 ?_
  refine g_iconst (n := 647) (v := (nI 1)) hC (by decide) dL_law_646 ?_
  refine g_iaddN (n := 648) hC dL_law_647 ?_
  refine g_sld (n := 649) (j := i + 1) hC hS9 rfl (by omega) (by omega) dL_law_648 ?_
  refine g_callV (r := []) hC gv_L_138 hM mM sM rfl (by decide) (by decide) rfl rfl (Nat.le_of_ble_eq_true rfl) ⟨by show k9 + 1 ≤ 601024; omega, by show n9 + 7 ≤ 7293034; omega⟩ dL_law_649 (fun rv z2 L2 σ2 hp => ?_)
  obtain ⟨⟨u, ⟨vv, rfl, eu⟩, hout⟩, hI2⟩ := hp
  refine g_istore (n := 654) (ll1 := [some (.ref b0), some (.ref a), some (.ref (a + 506)), some (.ref (a + 524)), some (.ref (a + 525)), some (.int (nI i)), some (.int (nI k)), some (.int vv), none]) hC dL_law_652 rfl ?_
  refine g_aload_n (n := 655) hC rfl dL_law_654 ?_
  obtain ⟨_, ⟨mM2, fs2, sM2⟩, hS2⟩ := wI_S hI2
  refine g_cV (n := 658) hC gv_L_107 mM2 sM2 (wI_th hI2) dL_law_655 ?_ (hroom := ⟨by show k9 + 1 ≤ 601024; omega, by show n9 + 7 ≤ 7293034; omega⟩)
  refine g_iload (n := 660) hC rfl dL_law_658 ?_
  refine g_icmp_eq (n := 663) (tgt := 665) hC dL_law_660 (fun _ => ?_) (fun q9 => absurd rfl q9)
  refine g_iload (n := 667) hC rfl dL_law_665 ?_
  refine g_if_ne (n := 670) (tgt := 682) hC dL_law_667 (fun _ => ?_) (fun h0 => ?_)
  · refine g_goto (n := 1631) hC dL_law_682 ?_
    exact G.le (hb (nI k) z2 (k9 + 1) (n9 + 7) L2 σ2 hI2 (by omega) (by omega)) ⟨rfl, rfl, rfl, rfl, rfl, rfl, trivial⟩
  have hk0 : k = 0 := ni (h0.trans nI_0.symm)
  obtain ⟨f, hf, hf0⟩ := hout hk0
  refine g_aload_n (n := 671) hC rfl dL_law_670 ?_
  refine g_iconst (n := 672) (v := (nI 0)) hC (by decide) dL_law_671 ?_
  refine g_lald (n := 673) (j := 0) (f := f) hC hS2.1.1 hf rfl (by omega) (by omega) dL_law_672 ?_
  refine g_iload (n := 675) hC rfl dL_law_673 ?_
  refine g_i2l (n := 676) (v := vv.toInt64) hC rfl dL_law_675 ?_
  refine g_lcmp_eq (n := 680) (tgt := 682) hC dL_law_676 dL_law_677 (fun _ => ?_) (fun q9 => absurd (hf0.trans eu) q9)
  refine g_goto (n := 1631) hC dL_law_682 ?_
  exact G.le (hb (nI k) z2 (k9 + 1) (n9 + 7) L2 σ2 hI2 (by omega) (by omega)) ⟨rfl, rfl, rfl, rfl, rfl, rfl, trivial⟩

set_option maxRecDepth 20000 in
theorem LC_player {K : GK} {Γ : GX} {Po : GP} {mn : String} {b0 len : Nat} {xs : Nat → Int32} (hC : gC K Γ cL_law 9 RL mn 14 601024 7293034 (some .boolean) Po) (hZ9 : gCZ K Γ) (hS9 : gSc Γ b0 len xs) (hlen : len ≤ 2048) {i a z k9 n9 : Nat} {L : List Nat} {σ : GS} {th : Int32} (hi : i + 4 ≤ len) (hI : wI K a th z L σ) (hk : k9 ≤ 600 + i) (hn : n9 ≤ 30000 + 7 * i) (hb : ∀ (th9 : Int32) (z9 kk9 nn9 : Nat) (L9 : List Nat) (σ9 : GS), wI K a th9 z9 L9 σ9 → kk9 ≤ 604 + i → nn9 ≤ 30028 + 7 * i → G K Γ (z9, kk9, nn9, L9) σ9 1631 [some (.ref b0), some (.ref a), some (.ref (a + 506)), some (.ref (a + 524)), some (.ref (a + 525)), some (.int (nI i)), none, none, none] []) : G K Γ (z, k9, n9, L) σ 685 [some (.ref b0), some (.ref a), some (.ref (a + 506)), some (.ref (a + 524)), some (.ref (a + 525)), some (.int (nI i)), none, none, none] [] := by
  obtain ⟨⟨ma, fsa, sa⟩, ⟨mM0, fsM0, sM0⟩, _⟩ := wI_S hI
  refine g_aload_n (n := 686) hC rfl dL_law_685 ?_
  refine g_aload_n (n := 687) hC rfl dL_law_686 ?_
  refine g_iload (n := 689) hC rfl dL_law_687 ?_
  refine g_iconst (n := 690) (v := (nI 1)) hC (by decide) dL_law_689 ?_
  refine g_iaddN (n := 691) hC dL_law_690 ?_
  refine g_sld (n := 692) (j := i + 1) hC hS9 rfl (by omega) (by omega) dL_law_691 ?_
  refine g_aload_n (n := 693) hC rfl dL_law_692 ?_
  refine g_iload (n := 695) hC rfl dL_law_693 ?_
  refine g_iconst (n := 696) (v := (nI 2)) hC (by decide) dL_law_695 ?_
  refine g_iaddN (n := 697) hC dL_law_696 ?_
  refine g_sld (n := 698) (j := i + 2) hC hS9 rfl (by omega) (by omega) dL_law_697 ?_
  refine g_aload_n (n := 699) hC rfl dL_law_698 ?_
  refine g_callW (r := []) hC hZ9 gw_L_139 (C_player K hI (xs (i + 1)) (xs (i + 2))) (by decide) (by decide) rfl rfl (Nat.le_of_ble_eq_true rfl) ⟨by show k9 + 1 ≤ 601024; omega, by show n9 + 7 ≤ 7293034; omega⟩ dL_law_699 (fun rv z1 L1 σ1 hp => ?_)
  obtain ⟨k, hk3, rfl, ⟨mM, fsM, sM⟩, hM⟩ := hp
  refine g_istore (n := 704) (ll1 := [some (.ref b0), some (.ref a), some (.ref (a + 506)), some (.ref (a + 524)), some (.ref (a + 525)), some (.int (nI i)), some (.int (nI k)), none, none]) hC dL_law_702 rfl ?_
  refine g_aload_n (n := 705) hC rfl dL_law_704 ?_
  refine g_aload_n (n := 706) hC rfl dL_law_705 ?_
  refine g_iload (n := 708) hC rfl dL_law_706 ?_
  refine g_iconst (n := 709) (v := (nI 1)) hC (by decide) dL_law_708 ?_
  refine g_iaddN (n := 710) hC dL_law_709 ?_
  refine g_sld (n := 711) (j := i + 1) hC hS9 rfl (by omega) (by omega) dL_law_710 ?_
  refine g_aload_n (n := 712) hC rfl dL_law_711 ?_
  refine g_iload (n := 714) hC rfl dL_law_712 ?_
  refine g_iconst (n := 715) (v := (nI 2)) hC (by decide) dL_law_714 ?_
  refine g_iaddN (n := 716) hC dL_law_715 ?_
  refine g_sld (n := 717) (j := i + 2) hC hS9 rfl (by omega) (by omega) dL_law_716 ?_
  refine g_callV (r := []) hC gv_L_141 hM mM sM rfl (by decide) (by decide) rfl rfl (Nat.le_of_ble_eq_true rfl) ⟨by show k9 + 1 ≤ 601024; omega, by show n9 + 7 ≤ 7293034; omega⟩ dL_law_717 (fun rv z2 L2 σ2 hp => ?_)
  obtain ⟨⟨u, ⟨vv, rfl, eu⟩, hout⟩, hI2⟩ := hp
  refine g_istore (n := 722) (ll1 := [some (.ref b0), some (.ref a), some (.ref (a + 506)), some (.ref (a + 524)), some (.ref (a + 525)), some (.int (nI i)), some (.int (nI k)), some (.int vv), none]) hC dL_law_720 rfl ?_
  refine g_aload_n (n := 723) hC rfl dL_law_722 ?_
  obtain ⟨_, ⟨mM2, fs2, sM2⟩, hS2⟩ := wI_S hI2
  refine g_cV (n := 726) hC gv_L_107 mM2 sM2 (wI_th hI2) dL_law_723 ?_ (hroom := ⟨by show k9 + 1 ≤ 601024; omega, by show n9 + 7 ≤ 7293034; omega⟩)
  refine g_iload (n := 728) hC rfl dL_law_726 ?_
  refine g_icmp_eq (n := 731) (tgt := 733) hC dL_law_728 (fun _ => ?_) (fun q9 => absurd rfl q9)
  refine g_iload (n := 735) hC rfl dL_law_733 ?_
  refine g_if_ne (n := 738) (tgt := 750) hC dL_law_735 (fun _ => ?_) (fun h0 => ?_)
  · refine g_goto (n := 1631) hC dL_law_750 ?_
    exact G.le (hb (nI k) z2 (k9 + 1) (n9 + 7) L2 σ2 hI2 (by omega) (by omega)) ⟨rfl, rfl, rfl, rfl, rfl, rfl, trivial⟩
  have hk0 : k = 0 := ni (h0.trans nI_0.symm)
  obtain ⟨f, hf, hf0⟩ := hout hk0
  refine g_aload_n (n := 739) hC rfl dL_law_738 ?_
  refine g_iconst (n := 740) (v := (nI 0)) hC (by decide) dL_law_739 ?_
  refine g_lald (n := 741) (j := 0) (f := f) hC hS2.1.1 hf rfl (by omega) (by omega) dL_law_740 ?_
  refine g_iload (n := 743) hC rfl dL_law_741 ?_
  refine g_i2l (n := 744) (v := vv.toInt64) hC rfl dL_law_743 ?_
  refine g_lcmp_eq (n := 748) (tgt := 750) hC dL_law_744 dL_law_745 (fun _ => ?_) (fun q9 => absurd (hf0.trans eu) q9)
  refine g_goto (n := 1631) hC dL_law_750 ?_
  exact G.le (hb (nI k) z2 (k9 + 1) (n9 + 7) L2 σ2 hI2 (by omega) (by omega)) ⟨rfl, rfl, rfl, rfl, rfl, rfl, trivial⟩

set_option maxRecDepth 20000 in
theorem LC_region {K : GK} {Γ : GX} {Po : GP} {mn : String} {b0 len : Nat} {xs : Nat → Int32} (hC : gC K Γ cL_law 9 RL mn 14 601024 7293034 (some .boolean) Po) (hZ9 : gCZ K Γ) (hS9 : gSc Γ b0 len xs) (hlen : len ≤ 2048) {i a z k9 n9 : Nat} {L : List Nat} {σ : GS} {th : Int32} (hi : i + 4 ≤ len) (hI : wI K a th z L σ) (hk : k9 ≤ 600 + i) (hn : n9 ≤ 30000 + 7 * i) (hb : ∀ (th9 : Int32) (z9 kk9 nn9 : Nat) (L9 : List Nat) (σ9 : GS), wI K a th9 z9 L9 σ9 → kk9 ≤ 604 + i → nn9 ≤ 30028 + 7 * i → G K Γ (z9, kk9, nn9, L9) σ9 1631 [some (.ref b0), some (.ref a), some (.ref (a + 506)), some (.ref (a + 524)), some (.ref (a + 525)), some (.int (nI i)), none, none, none] []) : G K Γ (z, k9, n9, L) σ 753 [some (.ref b0), some (.ref a), some (.ref (a + 506)), some (.ref (a + 524)), some (.ref (a + 525)), some (.int (nI i)), none, none, none] [] := by
  obtain ⟨⟨ma, fsa, sa⟩, ⟨mM0, fsM0, sM0⟩, _⟩ := wI_S hI
  refine g_aload_n (n := 754) hC rfl dL_law_753 ?_
  refine g_aload_n (n := 755) hC rfl dL_law_754 ?_
  refine g_iload (n := 757) hC rfl dL_law_755 ?_
  refine g_iconst (n := 758) (v := (nI 1)) hC (by decide) dL_law_757 ?_
  refine g_iaddN (n := 759) hC dL_law_758 ?_
  refine g_sld (n := 760) (j := i + 1) hC hS9 rfl (by omega) (by omega) dL_law_759 ?_
  refine g_aload_n (n := 761) hC rfl dL_law_760 ?_
  refine g_iload (n := 763) hC rfl dL_law_761 ?_
  refine g_iconst (n := 764) (v := (nI 2)) hC (by decide) dL_law_763 ?_
  refine g_iaddN (n := 765) hC dL_law_764 ?_
  refine g_sld (n := 766) (j := i + 2) hC hS9 rfl (by omega) (by omega) dL_law_765 ?_
  refine g_aload_n (n := 767) hC rfl dL_law_766 ?_
  refine g_callW (r := []) hC hZ9 gw_L_142 (C_region K hI (xs (i + 1)) (xs (i + 2))) (by decide) (by decide) rfl rfl (Nat.le_of_ble_eq_true rfl) ⟨by show k9 + 1 ≤ 601024; omega, by show n9 + 7 ≤ 7293034; omega⟩ dL_law_767 (fun rv z1 L1 σ1 hp => ?_)
  obtain ⟨k, hk3, rfl, ⟨mM, fsM, sM⟩, hM⟩ := hp
  refine g_istore (n := 772) (ll1 := [some (.ref b0), some (.ref a), some (.ref (a + 506)), some (.ref (a + 524)), some (.ref (a + 525)), some (.int (nI i)), some (.int (nI k)), none, none]) hC dL_law_770 rfl ?_
  refine g_aload_n (n := 773) hC rfl dL_law_772 ?_
  refine g_aload_n (n := 774) hC rfl dL_law_773 ?_
  refine g_iload (n := 776) hC rfl dL_law_774 ?_
  refine g_iconst (n := 777) (v := (nI 1)) hC (by decide) dL_law_776 ?_
  refine g_iaddN (n := 778) hC dL_law_777 ?_
  refine g_sld (n := 779) (j := i + 1) hC hS9 rfl (by omega) (by omega) dL_law_778 ?_
  refine g_aload_n (n := 780) hC rfl dL_law_779 ?_
  refine g_iload (n := 782) hC rfl dL_law_780 ?_
  refine g_iconst (n := 783) (v := (nI 2)) hC (by decide) dL_law_782 ?_
  refine g_iaddN (n := 784) hC dL_law_783 ?_
  refine g_sld (n := 785) (j := i + 2) hC hS9 rfl (by omega) (by omega) dL_law_784 ?_
  refine g_callV (r := []) hC gv_L_144 hM mM sM rfl (by decide) (by decide) rfl rfl (Nat.le_of_ble_eq_true rfl) ⟨by show k9 + 1 ≤ 601024; omega, by show n9 + 7 ≤ 7293034; omega⟩ dL_law_785 (fun rv z2 L2 σ2 hp => ?_)
  obtain ⟨⟨u, rfl, hout⟩, hI2⟩ := hp
  refine g_lstore (n := 790) (ll1 := [some (.ref b0), some (.ref a), some (.ref (a + 506)), some (.ref (a + 524)), some (.ref (a + 525)), some (.int (nI i)), some (.int (nI k)), some (.long u), none]) hC dL_law_788 rfl ?_
  refine g_aload_n (n := 791) hC rfl dL_law_790 ?_
  obtain ⟨_, ⟨mM2, fs2, sM2⟩, hS2⟩ := wI_S hI2
  refine g_cV (n := 794) hC gv_L_107 mM2 sM2 (wI_th hI2) dL_law_791 ?_ (hroom := ⟨by show k9 + 1 ≤ 601024; omega, by show n9 + 7 ≤ 7293034; omega⟩)
  refine g_iload (n := 796) hC rfl dL_law_794 ?_
  refine g_icmp_eq (n := 799) (tgt := 801) hC dL_law_796 (fun _ => ?_) (fun q9 => absurd rfl q9)
  refine g_iload (n := 803) hC rfl dL_law_801 ?_
  refine g_if_ne (n := 806) (tgt := 817) hC dL_law_803 (fun _ => ?_) (fun h0 => ?_)
  · refine g_goto (n := 1631) hC dL_law_817 ?_
    exact G.le (hb (nI k) z2 (k9 + 1) (n9 + 7) L2 σ2 hI2 (by omega) (by omega)) ⟨rfl, rfl, rfl, rfl, rfl, rfl, trivial⟩
  have hk0 : k = 0 := ni (h0.trans nI_0.symm)
  obtain ⟨f, hf, hf0⟩ := hout hk0
  refine g_aload_n (n := 807) hC rfl dL_law_806 ?_
  refine g_iconst (n := 808) (v := (nI 0)) hC (by decide) dL_law_807 ?_
  refine g_lald (n := 809) (j := 0) (f := f) hC hS2.1.1 hf rfl (by omega) (by omega) dL_law_808 ?_
  refine g_lload (n := 811) hC rfl dL_law_809 ?_
  refine g_lcmp_eq (n := 815) (tgt := 817) hC dL_law_811 dL_law_812 (fun _ => ?_) (fun q9 => absurd (hf0) q9)
  refine g_goto (n := 1631) hC dL_law_817 ?_
  exact G.le (hb (nI k) z2 (k9 + 1) (n9 + 7) L2 σ2 hI2 (by omega) (by omega)) ⟨rfl, rfl, rfl, rfl, rfl, rfl, trivial⟩

set_option maxRecDepth 20000 in
theorem LC_cells {K : GK} {Γ : GX} {Po : GP} {mn : String} {b0 len : Nat} {xs : Nat → Int32} (hC : gC K Γ cL_law 9 RL mn 14 601024 7293034 (some .boolean) Po) (hZ9 : gCZ K Γ) (hS9 : gSc Γ b0 len xs) (hlen : len ≤ 2048) {i a z k9 n9 : Nat} {L : List Nat} {σ : GS} {th : Int32} (hi : i + 4 ≤ len) (hI : wI K a th z L σ) (hk : k9 ≤ 600 + i) (hn : n9 ≤ 30000 + 7 * i) (hb : ∀ (th9 : Int32) (z9 kk9 nn9 : Nat) (L9 : List Nat) (σ9 : GS), wI K a th9 z9 L9 σ9 → kk9 ≤ 604 + i → nn9 ≤ 30028 + 7 * i → G K Γ (z9, kk9, nn9, L9) σ9 1631 [some (.ref b0), some (.ref a), some (.ref (a + 506)), some (.ref (a + 524)), some (.ref (a + 525)), some (.int (nI i)), none, none, none] []) : G K Γ (z, k9, n9, L) σ 820 [some (.ref b0), some (.ref a), some (.ref (a + 506)), some (.ref (a + 524)), some (.ref (a + 525)), some (.int (nI i)), none, none, none] [] := by
  obtain ⟨⟨ma, fsa, sa⟩, ⟨mM0, fsM0, sM0⟩, _⟩ := wI_S hI
  refine g_aload_n (n := 821) hC rfl dL_law_820 ?_
  refine g_aload_n (n := 822) hC rfl dL_law_821 ?_
  refine g_iload (n := 824) hC rfl dL_law_822 ?_
  refine g_iconst (n := 825) (v := (nI 1)) hC (by decide) dL_law_824 ?_
  refine g_iaddN (n := 826) hC dL_law_825 ?_
  refine g_sld (n := 827) (j := i + 1) hC hS9 rfl (by omega) (by omega) dL_law_826 ?_
  refine g_aload_n (n := 828) hC rfl dL_law_827 ?_
  refine g_callW (r := []) hC hZ9 gw_L_145 (C_cells K hI (xs (i + 1))) (by decide) (by decide) rfl rfl (Nat.le_of_ble_eq_true rfl) ⟨by show k9 + 1 ≤ 601024; omega, by show n9 + 7 ≤ 7293034; omega⟩ dL_law_828 (fun rv z1 L1 σ1 hp => ?_)
  obtain ⟨k, hk3, rfl, ⟨mM, fsM, sM⟩, hM⟩ := hp
  refine g_istore (n := 833) (ll1 := [some (.ref b0), some (.ref a), some (.ref (a + 506)), some (.ref (a + 524)), some (.ref (a + 525)), some (.int (nI i)), some (.int (nI k)), none, none]) hC dL_law_831 rfl ?_
  refine g_aload_n (n := 834) hC rfl dL_law_833 ?_
  refine g_aload_n (n := 835) hC rfl dL_law_834 ?_
  refine g_iload (n := 837) hC rfl dL_law_835 ?_
  refine g_iconst (n := 838) (v := (nI 1)) hC (by decide) dL_law_837 ?_
  refine g_iaddN (n := 839) hC dL_law_838 ?_
  refine g_sld (n := 840) (j := i + 1) hC hS9 rfl (by omega) (by omega) dL_law_839 ?_
  refine g_callV (r := []) hC gv_L_147 hM mM sM rfl (by decide) (by decide) rfl rfl (Nat.le_of_ble_eq_true rfl) ⟨by show k9 + 1 ≤ 601024; omega, by show n9 + 7 ≤ 7293034; omega⟩ dL_law_840 (fun rv z2 L2 σ2 hp => ?_)
  obtain ⟨⟨u, rfl, hout⟩, hI2⟩ := hp
  refine g_lstore (n := 845) (ll1 := [some (.ref b0), some (.ref a), some (.ref (a + 506)), some (.ref (a + 524)), some (.ref (a + 525)), some (.int (nI i)), some (.int (nI k)), some (.long u), none]) hC dL_law_843 rfl ?_
  refine g_aload_n (n := 846) hC rfl dL_law_845 ?_
  obtain ⟨_, ⟨mM2, fs2, sM2⟩, hS2⟩ := wI_S hI2
  refine g_cV (n := 849) hC gv_L_107 mM2 sM2 (wI_th hI2) dL_law_846 ?_ (hroom := ⟨by show k9 + 1 ≤ 601024; omega, by show n9 + 7 ≤ 7293034; omega⟩)
  refine g_iload (n := 851) hC rfl dL_law_849 ?_
  refine g_icmp_eq (n := 854) (tgt := 856) hC dL_law_851 (fun _ => ?_) (fun q9 => absurd rfl q9)
  refine g_iload (n := 858) hC rfl dL_law_856 ?_
  refine g_if_ne (n := 861) (tgt := 872) hC dL_law_858 (fun _ => ?_) (fun h0 => ?_)
  · refine g_goto (n := 1631) hC dL_law_872 ?_
    exact G.le (hb (nI k) z2 (k9 + 1) (n9 + 7) L2 σ2 hI2 (by omega) (by omega)) ⟨rfl, rfl, rfl, rfl, rfl, rfl, trivial⟩
  have hk0 : k = 0 := ni (h0.trans nI_0.symm)
  obtain ⟨f, hf, hf0⟩ := hout hk0
  refine g_aload_n (n := 862) hC rfl dL_law_861 ?_
  refine g_iconst (n := 863) (v := (nI 0)) hC (by decide) dL_law_862 ?_
  refine g_lald (n := 864) (j := 0) (f := f) hC hS2.1.1 hf rfl (by omega) (by omega) dL_law_863 ?_
  refine g_lload (n := 866) hC rfl dL_law_864 ?_
  refine g_lcmp_eq (n := 870) (tgt := 872) hC dL_law_866 dL_law_867 (fun _ => ?_) (fun q9 => absurd (hf0) q9)
  refine g_goto (n := 1631) hC dL_law_872 ?_
  exact G.le (hb (nI k) z2 (k9 + 1) (n9 + 7) L2 σ2 hI2 (by omega) (by omega)) ⟨rfl, rfl, rfl, rfl, rfl, rfl, trivial⟩

set_option maxRecDepth 20000 in
theorem LC_chain {K : GK} {Γ : GX} {Po : GP} {mn : String} {b0 len : Nat} {xs : Nat → Int32} (hC : gC K Γ cL_law 9 RL mn 14 601024 7293034 (some .boolean) Po) (hZ9 : gCZ K Γ) (hS9 : gSc Γ b0 len xs) (hlen : len ≤ 2048) {i a z k9 n9 : Nat} {L : List Nat} {σ : GS} {th : Int32} (hi : i + 4 ≤ len) (hI : wI K a th z L σ) (hk : k9 ≤ 600 + i) (hn : n9 ≤ 30000 + 7 * i) (hb : ∀ (th9 : Int32) (z9 kk9 nn9 : Nat) (L9 : List Nat) (σ9 : GS), wI K a th9 z9 L9 σ9 → kk9 ≤ 604 + i → nn9 ≤ 30028 + 7 * i → G K Γ (z9, kk9, nn9, L9) σ9 1631 [some (.ref b0), some (.ref a), some (.ref (a + 506)), some (.ref (a + 524)), some (.ref (a + 525)), some (.int (nI i)), none, none, none] []) : G K Γ (z, k9, n9, L) σ 875 [some (.ref b0), some (.ref a), some (.ref (a + 506)), some (.ref (a + 524)), some (.ref (a + 525)), some (.int (nI i)), none, none, none] [] := by
  obtain ⟨⟨ma, fsa, sa⟩, ⟨mM0, fsM0, sM0⟩, _⟩ := wI_S hI
  refine g_aload_n (n := 876) hC rfl dL_law_875 ?_
  refine g_aload_n (n := 877) hC rfl dL_law_876 ?_
  refine g_iload (n := 879) hC rfl dL_law_877 ?_
  refine g_iconst (n := 880) (v := (nI 1)) hC (by decide) dL_law_879 ?_
  refine g_iaddN (n := 881) hC dL_law_880 ?_
  refine g_sld (n := 882) (j := i + 1) hC hS9 rfl (by omega) (by omega) dL_law_881 ?_
  refine g_aload_n (n := 883) hC rfl dL_law_882 ?_
  refine g_callW (r := []) hC hZ9 gw_L_148 (C_chain K hI (xs (i + 1))) (by decide) (by decide) rfl rfl (Nat.le_of_ble_eq_true rfl) ⟨by show k9 + 1 ≤ 601024; omega, by show n9 + 7 ≤ 7293034; omega⟩ dL_law_883 (fun rv z1 L1 σ1 hp => ?_)
  obtain ⟨k, hk3, rfl, ⟨mM, fsM, sM⟩, hM⟩ := hp
  refine g_istore (n := 888) (ll1 := [some (.ref b0), some (.ref a), some (.ref (a + 506)), some (.ref (a + 524)), some (.ref (a + 525)), some (.int (nI i)), some (.int (nI k)), none, none]) hC dL_law_886 rfl ?_
  refine g_aload_n (n := 889) hC rfl dL_law_888 ?_
  refine g_aload_n (n := 890) hC rfl dL_law_889 ?_
  refine g_iload (n := 892) hC rfl dL_law_890 ?_
  refine g_iconst (n := 893) (v := (nI 1)) hC (by decide) dL_law_892 ?_
  refine g_iaddN (n := 894) hC dL_law_893 ?_
  refine g_sld (n := 895) (j := i + 1) hC hS9 rfl (by omega) (by omega) dL_law_894 ?_
  refine g_callV (r := []) hC gv_L_150 hM mM sM rfl (by decide) (by decide) rfl rfl (Nat.le_of_ble_eq_true rfl) ⟨by show k9 + 1 ≤ 601024; omega, by show n9 + 7 ≤ 7293034; omega⟩ dL_law_895 (fun rv z2 L2 σ2 hp => ?_)
  obtain ⟨⟨u, rfl, hout⟩, hI2⟩ := hp
  refine g_lstore (n := 900) (ll1 := [some (.ref b0), some (.ref a), some (.ref (a + 506)), some (.ref (a + 524)), some (.ref (a + 525)), some (.int (nI i)), some (.int (nI k)), some (.long u), none]) hC dL_law_898 rfl ?_
  refine g_aload_n (n := 901) hC rfl dL_law_900 ?_
  obtain ⟨_, ⟨mM2, fs2, sM2⟩, hS2⟩ := wI_S hI2
  refine g_cV (n := 904) hC gv_L_107 mM2 sM2 (wI_th hI2) dL_law_901 ?_ (hroom := ⟨by show k9 + 1 ≤ 601024; omega, by show n9 + 7 ≤ 7293034; omega⟩)
  refine g_iload (n := 906) hC rfl dL_law_904 ?_
  refine g_icmp_eq (n := 909) (tgt := 911) hC dL_law_906 (fun _ => ?_) (fun q9 => absurd rfl q9)
  refine g_iload (n := 913) hC rfl dL_law_911 ?_
  refine g_if_ne (n := 916) (tgt := 927) hC dL_law_913 (fun _ => ?_) (fun h0 => ?_)
  · refine g_goto (n := 1631) hC dL_law_927 ?_
    exact G.le (hb (nI k) z2 (k9 + 1) (n9 + 7) L2 σ2 hI2 (by omega) (by omega)) ⟨rfl, rfl, rfl, rfl, rfl, rfl, trivial⟩
  have hk0 : k = 0 := ni (h0.trans nI_0.symm)
  obtain ⟨f, hf, hf0⟩ := hout hk0
  refine g_aload_n (n := 917) hC rfl dL_law_916 ?_
  refine g_iconst (n := 918) (v := (nI 0)) hC (by decide) dL_law_917 ?_
  refine g_lald (n := 919) (j := 0) (f := f) hC hS2.1.1 hf rfl (by omega) (by omega) dL_law_918 ?_
  refine g_lload (n := 921) hC rfl dL_law_919 ?_
  refine g_lcmp_eq (n := 925) (tgt := 927) hC dL_law_921 dL_law_922 (fun _ => ?_) (fun q9 => absurd (hf0) q9)
  refine g_goto (n := 1631) hC dL_law_927 ?_
  exact G.le (hb (nI k) z2 (k9 + 1) (n9 + 7) L2 σ2 hI2 (by omega) (by omega)) ⟨rfl, rfl, rfl, rfl, rfl, rfl, trivial⟩

set_option maxRecDepth 20000 in
theorem LC_stonesToEnclose {K : GK} {Γ : GX} {Po : GP} {mn : String} {b0 len : Nat} {xs : Nat → Int32} (hC : gC K Γ cL_law 9 RL mn 14 601024 7293034 (some .boolean) Po) (hZ9 : gCZ K Γ) (hS9 : gSc Γ b0 len xs) (hlen : len ≤ 2048) {i a z k9 n9 : Nat} {L : List Nat} {σ : GS} {th : Int32} (hi : i + 4 ≤ len) (hI : wI K a th z L σ) (hk : k9 ≤ 600 + i) (hn : n9 ≤ 30000 + 7 * i) (hb : ∀ (th9 : Int32) (z9 kk9 nn9 : Nat) (L9 : List Nat) (σ9 : GS), wI K a th9 z9 L9 σ9 → kk9 ≤ 604 + i → nn9 ≤ 30028 + 7 * i → G K Γ (z9, kk9, nn9, L9) σ9 1631 [some (.ref b0), some (.ref a), some (.ref (a + 506)), some (.ref (a + 524)), some (.ref (a + 525)), some (.int (nI i)), none, none, none] []) : G K Γ (z, k9, n9, L) σ 930 [some (.ref b0), some (.ref a), some (.ref (a + 506)), some (.ref (a + 524)), some (.ref (a + 525)), some (.int (nI i)), none, none, none] [] := by
  obtain ⟨⟨ma, fsa, sa⟩, ⟨mM0, fsM0, sM0⟩, _⟩ := wI_S hI
  refine g_aload_n (n := 931) hC rfl dL_law_930 ?_
  refine g_aload_n (n := 932) hC rfl dL_law_931 ?_
  refine g_iload (n := 934) hC rfl dL_law_932 ?_
  refine g_iconst (n := 935) (v := (nI 1)) hC (by decide) dL_law_934 ?_
  refine g_iaddN (n := 936) hC dL_law_935 ?_
  refine g_sld (n := 937) (j := i + 1) hC hS9 rfl (by omega) (by omega) dL_law_936 ?_
  refine g_aload_n (n := 938) hC rfl dL_law_937 ?_
  refine g_iload (n := 940) hC rfl dL_law_938 ?_
  refine g_iconst (n := 941) (v := (nI 2)) hC (by decide) dL_law_940 ?_
  refine g_iaddN (n := 942) hC dL_law_941 ?_
  refine g_sld (n := 943) (j := i + 2) hC hS9 rfl (by omega) (by omega) dL_law_942 ?_
  refine g_aload_n (n := 944) hC rfl dL_law_943 ?_
  refine g_callW (r := []) hC hZ9 gw_L_151 (C_stonesToEnclose K hI (xs (i + 1)) (xs (i + 2))) (by decide) (by decide) rfl rfl (Nat.le_of_ble_eq_true rfl) ⟨by show k9 + 1 ≤ 601024; omega, by show n9 + 7 ≤ 7293034; omega⟩ dL_law_944 (fun rv z1 L1 σ1 hp => ?_)
  obtain ⟨k, hk3, rfl, ⟨mM, fsM, sM⟩, hM⟩ := hp
  refine g_istore (n := 949) (ll1 := [some (.ref b0), some (.ref a), some (.ref (a + 506)), some (.ref (a + 524)), some (.ref (a + 525)), some (.int (nI i)), some (.int (nI k)), none, none]) hC dL_law_947 rfl ?_
  refine g_aload_n (n := 950) hC rfl dL_law_949 ?_
  refine g_aload_n (n := 951) hC rfl dL_law_950 ?_
  refine g_iload (n := 953) hC rfl dL_law_951 ?_
  refine g_iconst (n := 954) (v := (nI 1)) hC (by decide) dL_law_953 ?_
  refine g_iaddN (n := 955) hC dL_law_954 ?_
  refine g_sld (n := 956) (j := i + 1) hC hS9 rfl (by omega) (by omega) dL_law_955 ?_
  refine g_aload_n (n := 957) hC rfl dL_law_956 ?_
  refine g_iload (n := 959) hC rfl dL_law_957 ?_
  refine g_iconst (n := 960) (v := (nI 2)) hC (by decide) dL_law_959 ?_
  refine g_iaddN (n := 961) hC dL_law_960 ?_
  refine g_sld (n := 962) (j := i + 2) hC hS9 rfl (by omega) (by omega) dL_law_961 ?_
  refine g_callV (r := []) hC gv_L_153 hM mM sM rfl (by decide) (by decide) rfl rfl (Nat.le_of_ble_eq_true rfl) ⟨by show k9 + 1 ≤ 601024; omega, by show n9 + 7 ≤ 7293034; omega⟩ dL_law_962 (fun rv z2 L2 σ2 hp => ?_)
  obtain ⟨⟨u, ⟨vv, rfl, eu⟩, hout⟩, hI2⟩ := hp
  refine g_istore (n := 967) (ll1 := [some (.ref b0), some (.ref a), some (.ref (a + 506)), some (.ref (a + 524)), some (.ref (a + 525)), some (.int (nI i)), some (.int (nI k)), some (.int vv), none]) hC dL_law_965 rfl ?_
  refine g_aload_n (n := 968) hC rfl dL_law_967 ?_
  obtain ⟨_, ⟨mM2, fs2, sM2⟩, hS2⟩ := wI_S hI2
  refine g_cV (n := 971) hC gv_L_107 mM2 sM2 (wI_th hI2) dL_law_968 ?_ (hroom := ⟨by show k9 + 1 ≤ 601024; omega, by show n9 + 7 ≤ 7293034; omega⟩)
  refine g_iload (n := 973) hC rfl dL_law_971 ?_
  refine g_icmp_eq (n := 976) (tgt := 978) hC dL_law_973 (fun _ => ?_) (fun q9 => absurd rfl q9)
  refine g_iload (n := 980) hC rfl dL_law_978 ?_
  refine g_if_ne (n := 983) (tgt := 995) hC dL_law_980 (fun _ => ?_) (fun h0 => ?_)
  · refine g_goto (n := 1631) hC dL_law_995 ?_
    exact G.le (hb (nI k) z2 (k9 + 1) (n9 + 7) L2 σ2 hI2 (by omega) (by omega)) ⟨rfl, rfl, rfl, rfl, rfl, rfl, trivial⟩
  have hk0 : k = 0 := ni (h0.trans nI_0.symm)
  obtain ⟨f, hf, hf0⟩ := hout hk0
  refine g_aload_n (n := 984) hC rfl dL_law_983 ?_
  refine g_iconst (n := 985) (v := (nI 0)) hC (by decide) dL_law_984 ?_
  refine g_lald (n := 986) (j := 0) (f := f) hC hS2.1.1 hf rfl (by omega) (by omega) dL_law_985 ?_
  refine g_iload (n := 988) hC rfl dL_law_986 ?_
  refine g_i2l (n := 989) (v := vv.toInt64) hC rfl dL_law_988 ?_
  refine g_lcmp_eq (n := 993) (tgt := 995) hC dL_law_989 dL_law_990 (fun _ => ?_) (fun q9 => absurd (hf0.trans eu) q9)
  refine g_goto (n := 1631) hC dL_law_995 ?_
  exact G.le (hb (nI k) z2 (k9 + 1) (n9 + 7) L2 σ2 hI2 (by omega) (by omega)) ⟨rfl, rfl, rfl, rfl, rfl, rfl, trivial⟩

set_option maxRecDepth 20000 in
theorem LC_share {K : GK} {Γ : GX} {Po : GP} {mn : String} {b0 len : Nat} {xs : Nat → Int32} (hC : gC K Γ cL_law 9 RL mn 14 601024 7293034 (some .boolean) Po) (hZ9 : gCZ K Γ) (hS9 : gSc Γ b0 len xs) (hlen : len ≤ 2048) {i a z k9 n9 : Nat} {L : List Nat} {σ : GS} {th : Int32} (hi : i + 4 ≤ len) (hI : wI K a th z L σ) (hk : k9 ≤ 600 + i) (hn : n9 ≤ 30000 + 7 * i) (hb : ∀ (th9 : Int32) (z9 kk9 nn9 : Nat) (L9 : List Nat) (σ9 : GS), wI K a th9 z9 L9 σ9 → kk9 ≤ 604 + i → nn9 ≤ 30028 + 7 * i → G K Γ (z9, kk9, nn9, L9) σ9 1631 [some (.ref b0), some (.ref a), some (.ref (a + 506)), some (.ref (a + 524)), some (.ref (a + 525)), some (.int (nI i)), none, none, none] []) : G K Γ (z, k9, n9, L) σ 998 [some (.ref b0), some (.ref a), some (.ref (a + 506)), some (.ref (a + 524)), some (.ref (a + 525)), some (.int (nI i)), none, none, none] [] := by
  obtain ⟨⟨ma, fsa, sa⟩, ⟨mM0, fsM0, sM0⟩, _⟩ := wI_S hI
  refine g_aload_n (n := 999) hC rfl dL_law_998 ?_
  refine g_aload_n (n := 1000) hC rfl dL_law_999 ?_
  refine g_iload (n := 1002) hC rfl dL_law_1000 ?_
  refine g_iconst (n := 1003) (v := (nI 1)) hC (by decide) dL_law_1002 ?_
  refine g_iaddN (n := 1004) hC dL_law_1003 ?_
  refine g_sld (n := 1005) (j := i + 1) hC hS9 rfl (by omega) (by omega) dL_law_1004 ?_
  refine g_aload (n := 1007) hC rfl dL_law_1005 ?_
  refine g_callW (r := []) hC hZ9 gw_L_154 (C_share K hI (xs (i + 1))) (by decide) (by decide) rfl rfl (Nat.le_of_ble_eq_true rfl) ⟨by show k9 + 1 ≤ 601024; omega, by show n9 + 7 ≤ 7293034; omega⟩ dL_law_1007 (fun rv z1 L1 σ1 hp => ?_)
  obtain ⟨k, hk3, rfl, ⟨mM, fsM, sM⟩, hM⟩ := hp
  refine g_istore (n := 1012) (ll1 := [some (.ref b0), some (.ref a), some (.ref (a + 506)), some (.ref (a + 524)), some (.ref (a + 525)), some (.int (nI i)), some (.int (nI k)), none, none]) hC dL_law_1010 rfl ?_
  refine g_aload_n (n := 1013) hC rfl dL_law_1012 ?_
  refine g_aload_n (n := 1014) hC rfl dL_law_1013 ?_
  refine g_iload (n := 1016) hC rfl dL_law_1014 ?_
  refine g_iconst (n := 1017) (v := (nI 1)) hC (by decide) dL_law_1016 ?_
  refine g_iaddN (n := 1018) hC dL_law_1017 ?_
  refine g_sld (n := 1019) (j := i + 1) hC hS9 rfl (by omega) (by omega) dL_law_1018 ?_
  refine g_callV (r := []) hC gv_L_157 hM mM sM rfl (by decide) (by decide) rfl rfl (Nat.le_of_ble_eq_true rfl) ⟨by show k9 + 1 ≤ 601024; omega, by show n9 + 7 ≤ 7293034; omega⟩ dL_law_1019 (fun rv z2 L2 σ2 hp => ?_)
  obtain ⟨⟨u, rfl, hout⟩, hI2⟩ := hp
  refine g_dstore (n := 1024) (ll1 := [some (.ref b0), some (.ref a), some (.ref (a + 506)), some (.ref (a + 524)), some (.ref (a + 525)), some (.int (nI i)), some (.int (nI k)), some (.double u), none]) hC dL_law_1022 rfl ?_
  refine g_aload_n (n := 1025) hC rfl dL_law_1024 ?_
  obtain ⟨_, ⟨mM2, fs2, sM2⟩, hS2⟩ := wI_S hI2
  refine g_cV (n := 1028) hC gv_L_107 mM2 sM2 (wI_th hI2) dL_law_1025 ?_ (hroom := ⟨by show k9 + 1 ≤ 601024; omega, by show n9 + 7 ≤ 7293034; omega⟩)
  refine g_iload (n := 1030) hC rfl dL_law_1028 ?_
  refine g_icmp_eq (n := 1033) (tgt := 1035) hC dL_law_1030 (fun _ => ?_) (fun q9 => absurd rfl q9)
  refine g_iload (n := 1037) hC rfl dL_law_1035 ?_
  refine g_if_ne (n := 1040) (tgt := 1072) hC dL_law_1037 (fun _ => ?_) (fun h0 => ?_)
  · refine g_goto (n := 1631) hC dL_law_1072 ?_
    exact G.le (hb (nI k) z2 (k9 + 1) (n9 + 7) L2 σ2 hI2 (by omega) (by omega)) ⟨rfl, rfl, rfl, rfl, rfl, rfl, trivial⟩
  have hk0 : k = 0 := ni (h0.trans nI_0.symm)
  obtain ⟨⟨f, hf, hf0⟩, hd0⟩ := hout hk0
  refine g_aload (n := 1042) hC rfl dL_law_1040 ?_
  refine g_iconst (n := 1043) (v := (nI 0)) hC (by decide) dL_law_1042 ?_
  refine g_dald (n := 1044) (j := 0) (f := f) hC hS2.2.1 hf rfl (by omega) (by omega) dL_law_1043 ?_
  refine g_dload (n := 1046) hC rfl dL_law_1044 ?_
  refine g_dcmp (n := 1047) hC dL_law_1046 ?_
  refine g_if_eq (n := 1050) (tgt := 1072) hC dL_law_1047 (fun _ => ?_) (fun q9 => absurd (by rw [hf0]; exact hd0) q9)
  refine g_goto (n := 1631) hC dL_law_1072 ?_
  exact G.le (hb (nI k) z2 (k9 + 1) (n9 + 7) L2 σ2 hI2 (by omega) (by omega)) ⟨rfl, rfl, rfl, rfl, rfl, rfl, trivial⟩

set_option maxRecDepth 20000 in
theorem LC_round {K : GK} {Γ : GX} {Po : GP} {mn : String} {b0 len : Nat} {xs : Nat → Int32} (hC : gC K Γ cL_law 9 RL mn 14 601024 7293034 (some .boolean) Po) (hZ9 : gCZ K Γ) (hS9 : gSc Γ b0 len xs) (hlen : len ≤ 2048) {i a z k9 n9 : Nat} {L : List Nat} {σ : GS} {th : Int32} (hi : i + 4 ≤ len) (hI : wI K a th z L σ) (hk : k9 ≤ 600 + i) (hn : n9 ≤ 30000 + 7 * i) (hb : ∀ (th9 : Int32) (z9 kk9 nn9 : Nat) (L9 : List Nat) (σ9 : GS), wI K a th9 z9 L9 σ9 → kk9 ≤ 604 + i → nn9 ≤ 30028 + 7 * i → G K Γ (z9, kk9, nn9, L9) σ9 1631 [some (.ref b0), some (.ref a), some (.ref (a + 506)), some (.ref (a + 524)), some (.ref (a + 525)), some (.int (nI i)), none, none, none] []) : G K Γ (z, k9, n9, L) σ 1075 [some (.ref b0), some (.ref a), some (.ref (a + 506)), some (.ref (a + 524)), some (.ref (a + 525)), some (.int (nI i)), none, none, none] [] := by
  obtain ⟨⟨ma, fsa, sa⟩, ⟨mM0, fsM0, sM0⟩, _⟩ := wI_S hI
  refine g_aload_n (n := 1076) hC rfl dL_law_1075 ?_
  refine g_aload_n (n := 1077) hC rfl dL_law_1076 ?_
  refine g_iload (n := 1079) hC rfl dL_law_1077 ?_
  refine g_iconst (n := 1080) (v := (nI 1)) hC (by decide) dL_law_1079 ?_
  refine g_iaddN (n := 1081) hC dL_law_1080 ?_
  refine g_sld (n := 1082) (j := i + 1) hC hS9 rfl (by omega) (by omega) dL_law_1081 ?_
  refine g_aload_n (n := 1083) hC rfl dL_law_1082 ?_
  refine g_iload (n := 1085) hC rfl dL_law_1083 ?_
  refine g_iconst (n := 1086) (v := (nI 2)) hC (by decide) dL_law_1085 ?_
  refine g_iaddN (n := 1087) hC dL_law_1086 ?_
  refine g_sld (n := 1088) (j := i + 2) hC hS9 rfl (by omega) (by omega) dL_law_1087 ?_
  refine g_aload_n (n := 1089) hC rfl dL_law_1088 ?_
  refine g_callW (r := []) hC hZ9 gw_L_158 (C_round K hI (xs (i + 1)) (xs (i + 2))) (by decide) (by decide) rfl rfl (Nat.le_of_ble_eq_true rfl) ⟨by show k9 + 1 ≤ 601024; omega, by show n9 + 7 ≤ 7293034; omega⟩ dL_law_1089 (fun rv z1 L1 σ1 hp => ?_)
  obtain ⟨k, hk3, rfl, ⟨mM, fsM, sM⟩, hM⟩ := hp
  refine g_istore (n := 1094) (ll1 := [some (.ref b0), some (.ref a), some (.ref (a + 506)), some (.ref (a + 524)), some (.ref (a + 525)), some (.int (nI i)), some (.int (nI k)), none, none]) hC dL_law_1092 rfl ?_
  refine g_aload_n (n := 1095) hC rfl dL_law_1094 ?_
  refine g_aload_n (n := 1096) hC rfl dL_law_1095 ?_
  refine g_iload (n := 1098) hC rfl dL_law_1096 ?_
  refine g_iconst (n := 1099) (v := (nI 1)) hC (by decide) dL_law_1098 ?_
  refine g_iaddN (n := 1100) hC dL_law_1099 ?_
  refine g_sld (n := 1101) (j := i + 1) hC hS9 rfl (by omega) (by omega) dL_law_1100 ?_
  refine g_aload_n (n := 1102) hC rfl dL_law_1101 ?_
  refine g_iload (n := 1104) hC rfl dL_law_1102 ?_
  refine g_iconst (n := 1105) (v := (nI 2)) hC (by decide) dL_law_1104 ?_
  refine g_iaddN (n := 1106) hC dL_law_1105 ?_
  refine g_sld (n := 1107) (j := i + 2) hC hS9 rfl (by omega) (by omega) dL_law_1106 ?_
  refine g_callV (r := []) hC gv_L_160 hM mM sM rfl (by decide) (by decide) rfl rfl (Nat.le_of_ble_eq_true rfl) ⟨by show k9 + 1 ≤ 601024; omega, by show n9 + 7 ≤ 7293034; omega⟩ dL_law_1107 (fun rv z2 L2 σ2 hp => ?_)
  obtain ⟨⟨u, ⟨vv, rfl, eu⟩, hout⟩, hI2⟩ := hp
  refine g_istore (n := 1112) (ll1 := [some (.ref b0), some (.ref a), some (.ref (a + 506)), some (.ref (a + 524)), some (.ref (a + 525)), some (.int (nI i)), some (.int (nI k)), some (.int vv), none]) hC dL_law_1110 rfl ?_
  refine g_aload_n (n := 1113) hC rfl dL_law_1112 ?_
  obtain ⟨_, ⟨mM2, fs2, sM2⟩, hS2⟩ := wI_S hI2
  refine g_cV (n := 1116) hC gv_L_107 mM2 sM2 (wI_th hI2) dL_law_1113 ?_ (hroom := ⟨by show k9 + 1 ≤ 601024; omega, by show n9 + 7 ≤ 7293034; omega⟩)
  refine g_iload (n := 1118) hC rfl dL_law_1116 ?_
  refine g_icmp_eq (n := 1121) (tgt := 1123) hC dL_law_1118 (fun _ => ?_) (fun q9 => absurd rfl q9)
  refine g_iload (n := 1125) hC rfl dL_law_1123 ?_
  refine g_if_ne (n := 1128) (tgt := 1140) hC dL_law_1125 (fun _ => ?_) (fun h0 => ?_)
  · refine g_goto (n := 1631) hC dL_law_1140 ?_
    exact G.le (hb (nI k) z2 (k9 + 1) (n9 + 7) L2 σ2 hI2 (by omega) (by omega)) ⟨rfl, rfl, rfl, rfl, rfl, rfl, trivial⟩
  have hk0 : k = 0 := ni (h0.trans nI_0.symm)
  obtain ⟨f, hf, hf0⟩ := hout hk0
  refine g_aload_n (n := 1129) hC rfl dL_law_1128 ?_
  refine g_iconst (n := 1130) (v := (nI 0)) hC (by decide) dL_law_1129 ?_
  refine g_lald (n := 1131) (j := 0) (f := f) hC hS2.1.1 hf rfl (by omega) (by omega) dL_law_1130 ?_
  refine g_iload (n := 1133) hC rfl dL_law_1131 ?_
  refine g_i2l (n := 1134) (v := vv.toInt64) hC rfl dL_law_1133 ?_
  refine g_lcmp_eq (n := 1138) (tgt := 1140) hC dL_law_1134 dL_law_1135 (fun _ => ?_) (fun q9 => absurd (hf0.trans eu) q9)
  refine g_goto (n := 1631) hC dL_law_1140 ?_
  exact G.le (hb (nI k) z2 (k9 + 1) (n9 + 7) L2 σ2 hI2 (by omega) (by omega)) ⟨rfl, rfl, rfl, rfl, rfl, rfl, trivial⟩

set_option maxRecDepth 20000 in
theorem LC_turningPoint {K : GK} {Γ : GX} {Po : GP} {mn : String} {b0 len : Nat} {xs : Nat → Int32} (hC : gC K Γ cL_law 9 RL mn 14 601024 7293034 (some .boolean) Po) (hZ9 : gCZ K Γ) (hS9 : gSc Γ b0 len xs) (hlen : len ≤ 2048) {i a z k9 n9 : Nat} {L : List Nat} {σ : GS} {th : Int32} (hi : i + 4 ≤ len) (hI : wI K a th z L σ) (hk : k9 ≤ 600 + i) (hn : n9 ≤ 30000 + 7 * i) (hb : ∀ (th9 : Int32) (z9 kk9 nn9 : Nat) (L9 : List Nat) (σ9 : GS), wI K a th9 z9 L9 σ9 → kk9 ≤ 604 + i → nn9 ≤ 30028 + 7 * i → G K Γ (z9, kk9, nn9, L9) σ9 1631 [some (.ref b0), some (.ref a), some (.ref (a + 506)), some (.ref (a + 524)), some (.ref (a + 525)), some (.int (nI i)), none, none, none] []) : G K Γ (z, k9, n9, L) σ 1143 [some (.ref b0), some (.ref a), some (.ref (a + 506)), some (.ref (a + 524)), some (.ref (a + 525)), some (.int (nI i)), none, none, none] [] := by
  obtain ⟨⟨ma, fsa, sa⟩, ⟨mM0, fsM0, sM0⟩, _⟩ := wI_S hI
  refine g_aload_n (n := 1144) hC rfl dL_law_1143 ?_
  refine g_aload_n (n := 1145) hC rfl dL_law_1144 ?_
  refine g_callW (r := []) hC hZ9 gw_L_161 (C_turningPoint K hI) (by decide) (by decide) rfl rfl (Nat.le_of_ble_eq_true rfl) ⟨by show k9 + 1 ≤ 601024; omega, by show n9 + 7 ≤ 7293034; omega⟩ dL_law_1145 (fun rv z1 L1 σ1 hp => ?_)
  obtain ⟨k, hk3, rfl, ⟨mM, fsM, sM⟩, hM⟩ := hp
  refine g_istore (n := 1150) (ll1 := [some (.ref b0), some (.ref a), some (.ref (a + 506)), some (.ref (a + 524)), some (.ref (a + 525)), some (.int (nI i)), some (.int (nI k)), none, none]) hC dL_law_1148 rfl ?_
  refine g_aload_n (n := 1151) hC rfl dL_law_1150 ?_
  refine g_callV (r := []) hC gv_L_163 hM mM sM rfl (by decide) (by decide) rfl rfl (Nat.le_of_ble_eq_true rfl) ⟨by show k9 + 1 ≤ 601024; omega, by show n9 + 7 ≤ 7293034; omega⟩ dL_law_1151 (fun rv z2 L2 σ2 hp => ?_)
  obtain ⟨⟨u, ⟨vv, rfl, eu⟩, hout⟩, hI2⟩ := hp
  refine g_istore (n := 1156) (ll1 := [some (.ref b0), some (.ref a), some (.ref (a + 506)), some (.ref (a + 524)), some (.ref (a + 525)), some (.int (nI i)), some (.int (nI k)), some (.int vv), none]) hC dL_law_1154 rfl ?_
  refine g_aload_n (n := 1157) hC rfl dL_law_1156 ?_
  obtain ⟨_, ⟨mM2, fs2, sM2⟩, hS2⟩ := wI_S hI2
  refine g_cV (n := 1160) hC gv_L_107 mM2 sM2 (wI_th hI2) dL_law_1157 ?_ (hroom := ⟨by show k9 + 1 ≤ 601024; omega, by show n9 + 7 ≤ 7293034; omega⟩)
  refine g_iload (n := 1162) hC rfl dL_law_1160 ?_
  refine g_icmp_eq (n := 1165) (tgt := 1167) hC dL_law_1162 (fun _ => ?_) (fun q9 => absurd rfl q9)
  refine g_iload (n := 1169) hC rfl dL_law_1167 ?_
  refine g_if_ne (n := 1172) (tgt := 1184) hC dL_law_1169 (fun _ => ?_) (fun h0 => ?_)
  · refine g_goto (n := 1631) hC dL_law_1184 ?_
    exact G.le (hb (nI k) z2 (k9 + 1) (n9 + 7) L2 σ2 hI2 (by omega) (by omega)) ⟨rfl, rfl, rfl, rfl, rfl, rfl, trivial⟩
  have hk0 : k = 0 := ni (h0.trans nI_0.symm)
  obtain ⟨f, hf, hf0⟩ := hout hk0
  refine g_aload_n (n := 1173) hC rfl dL_law_1172 ?_
  refine g_iconst (n := 1174) (v := (nI 0)) hC (by decide) dL_law_1173 ?_
  refine g_lald (n := 1175) (j := 0) (f := f) hC hS2.1.1 hf rfl (by omega) (by omega) dL_law_1174 ?_
  refine g_iload (n := 1177) hC rfl dL_law_1175 ?_
  refine g_i2l (n := 1178) (v := vv.toInt64) hC rfl dL_law_1177 ?_
  refine g_lcmp_eq (n := 1182) (tgt := 1184) hC dL_law_1178 dL_law_1179 (fun _ => ?_) (fun q9 => absurd (hf0.trans eu) q9)
  refine g_goto (n := 1631) hC dL_law_1184 ?_
  exact G.le (hb (nI k) z2 (k9 + 1) (n9 + 7) L2 σ2 hI2 (by omega) (by omega)) ⟨rfl, rfl, rfl, rfl, rfl, rfl, trivial⟩

set_option maxRecDepth 20000 in
theorem LC_guarantee {K : GK} {Γ : GX} {Po : GP} {mn : String} {b0 len : Nat} {xs : Nat → Int32} (hC : gC K Γ cL_law 9 RL mn 14 601024 7293034 (some .boolean) Po) (hZ9 : gCZ K Γ) (hS9 : gSc Γ b0 len xs) (hlen : len ≤ 2048) {i a z k9 n9 : Nat} {L : List Nat} {σ : GS} {th : Int32} (hi : i + 4 ≤ len) (hI : wI K a th z L σ) (hk : k9 ≤ 600 + i) (hn : n9 ≤ 30000 + 7 * i) (hb : ∀ (th9 : Int32) (z9 kk9 nn9 : Nat) (L9 : List Nat) (σ9 : GS), wI K a th9 z9 L9 σ9 → kk9 ≤ 604 + i → nn9 ≤ 30028 + 7 * i → G K Γ (z9, kk9, nn9, L9) σ9 1631 [some (.ref b0), some (.ref a), some (.ref (a + 506)), some (.ref (a + 524)), some (.ref (a + 525)), some (.int (nI i)), none, none, none] []) : G K Γ (z, k9, n9, L) σ 1187 [some (.ref b0), some (.ref a), some (.ref (a + 506)), some (.ref (a + 524)), some (.ref (a + 525)), some (.int (nI i)), none, none, none] [] := by
  obtain ⟨⟨ma, fsa, sa⟩, ⟨mM0, fsM0, sM0⟩, _⟩ := wI_S hI
  refine g_aload_n (n := 1188) hC rfl dL_law_1187 ?_
  refine g_aload_n (n := 1189) hC rfl dL_law_1188 ?_
  refine g_iload (n := 1191) hC rfl dL_law_1189 ?_
  refine g_iconst (n := 1192) (v := (nI 1)) hC (by decide) dL_law_1191 ?_
  refine g_iaddN (n := 1193) hC dL_law_1192 ?_
  refine g_sld (n := 1194) (j := i + 1) hC hS9 rfl (by omega) (by omega) dL_law_1193 ?_
  refine g_aload_n (n := 1195) hC rfl dL_law_1194 ?_
  refine g_iload (n := 1197) hC rfl dL_law_1195 ?_
  refine g_iconst (n := 1198) (v := (nI 2)) hC (by decide) dL_law_1197 ?_
  refine g_iaddN (n := 1199) hC dL_law_1198 ?_
  refine g_sld (n := 1200) (j := i + 2) hC hS9 rfl (by omega) (by omega) dL_law_1199 ?_
  refine g_aload_n (n := 1201) hC rfl dL_law_1200 ?_
  refine g_iload (n := 1203) hC rfl dL_law_1201 ?_
  refine g_iconst (n := 1204) (v := (nI 3)) hC (by decide) dL_law_1203 ?_
  refine g_iaddN (n := 1205) hC dL_law_1204 ?_
  refine g_sld (n := 1206) (j := i + 3) hC hS9 rfl (by omega) (by omega) dL_law_1205 ?_
  refine g_aload_n (n := 1207) hC rfl dL_law_1206 ?_
  refine g_callW (r := []) hC hZ9 gw_L_164 (C_guarantee K hI (xs (i + 1)) (xs (i + 2)) (xs (i + 3))) (by decide) (by decide) rfl rfl (Nat.le_of_ble_eq_true rfl) ⟨by show k9 + 1 ≤ 601024; omega, by show n9 + 7 ≤ 7293034; omega⟩ dL_law_1207 (fun rv z1 L1 σ1 hp => ?_)
  obtain ⟨k, hk3, rfl, ⟨mM, fsM, sM⟩, hM⟩ := hp
  refine g_istore (n := 1212) (ll1 := [some (.ref b0), some (.ref a), some (.ref (a + 506)), some (.ref (a + 524)), some (.ref (a + 525)), some (.int (nI i)), some (.int (nI k)), none, none]) hC dL_law_1210 rfl ?_
  refine g_aload_n (n := 1213) hC rfl dL_law_1212 ?_
  refine g_aload_n (n := 1214) hC rfl dL_law_1213 ?_
  refine g_iload (n := 1216) hC rfl dL_law_1214 ?_
  refine g_iconst (n := 1217) (v := (nI 1)) hC (by decide) dL_law_1216 ?_
  refine g_iaddN (n := 1218) hC dL_law_1217 ?_
  refine g_sld (n := 1219) (j := i + 1) hC hS9 rfl (by omega) (by omega) dL_law_1218 ?_
  refine g_aload_n (n := 1220) hC rfl dL_law_1219 ?_
  refine g_iload (n := 1222) hC rfl dL_law_1220 ?_
  refine g_iconst (n := 1223) (v := (nI 2)) hC (by decide) dL_law_1222 ?_
  refine g_iaddN (n := 1224) hC dL_law_1223 ?_
  refine g_sld (n := 1225) (j := i + 2) hC hS9 rfl (by omega) (by omega) dL_law_1224 ?_
  refine g_aload_n (n := 1226) hC rfl dL_law_1225 ?_
  refine g_iload (n := 1228) hC rfl dL_law_1226 ?_
  refine g_iconst (n := 1229) (v := (nI 3)) hC (by decide) dL_law_1228 ?_
  refine g_iaddN (n := 1230) hC dL_law_1229 ?_
  refine g_sld (n := 1231) (j := i + 3) hC hS9 rfl (by omega) (by omega) dL_law_1230 ?_
  refine g_callV (r := []) hC gv_L_166 hM mM sM rfl (by decide) (by decide) rfl rfl (Nat.le_of_ble_eq_true rfl) ⟨by show k9 + 1 ≤ 601024; omega, by show n9 + 7 ≤ 7293034; omega⟩ dL_law_1231 (fun rv z2 L2 σ2 hp => ?_)
  obtain ⟨⟨u, ⟨vv, rfl, eu⟩, hout⟩, hI2⟩ := hp
  refine g_istore (n := 1236) (ll1 := [some (.ref b0), some (.ref a), some (.ref (a + 506)), some (.ref (a + 524)), some (.ref (a + 525)), some (.int (nI i)), some (.int (nI k)), some (.int vv), none]) hC dL_law_1234 rfl ?_
  refine g_aload_n (n := 1237) hC rfl dL_law_1236 ?_
  obtain ⟨_, ⟨mM2, fs2, sM2⟩, hS2⟩ := wI_S hI2
  refine g_cV (n := 1240) hC gv_L_107 mM2 sM2 (wI_th hI2) dL_law_1237 ?_ (hroom := ⟨by show k9 + 1 ≤ 601024; omega, by show n9 + 7 ≤ 7293034; omega⟩)
  refine g_iload (n := 1242) hC rfl dL_law_1240 ?_
  refine g_icmp_eq (n := 1245) (tgt := 1247) hC dL_law_1242 (fun _ => ?_) (fun q9 => absurd rfl q9)
  refine g_iload (n := 1249) hC rfl dL_law_1247 ?_
  refine g_if_ne (n := 1252) (tgt := 1264) hC dL_law_1249 (fun _ => ?_) (fun h0 => ?_)
  · refine g_goto (n := 1631) hC dL_law_1264 ?_
    exact G.le (hb (nI k) z2 (k9 + 1) (n9 + 7) L2 σ2 hI2 (by omega) (by omega)) ⟨rfl, rfl, rfl, rfl, rfl, rfl, trivial⟩
  have hk0 : k = 0 := ni (h0.trans nI_0.symm)
  obtain ⟨f, hf, hf0⟩ := hout hk0
  refine g_aload_n (n := 1253) hC rfl dL_law_1252 ?_
  refine g_iconst (n := 1254) (v := (nI 0)) hC (by decide) dL_law_1253 ?_
  refine g_lald (n := 1255) (j := 0) (f := f) hC hS2.1.1 hf rfl (by omega) (by omega) dL_law_1254 ?_
  refine g_iload (n := 1257) hC rfl dL_law_1255 ?_
  refine g_i2l (n := 1258) (v := vv.toInt64) hC rfl dL_law_1257 ?_
  refine g_lcmp_eq (n := 1262) (tgt := 1264) hC dL_law_1258 dL_law_1259 (fun _ => ?_) (fun q9 => absurd (hf0.trans eu) q9)
  refine g_goto (n := 1631) hC dL_law_1264 ?_
  exact G.le (hb (nI k) z2 (k9 + 1) (n9 + 7) L2 σ2 hI2 (by omega) (by omega)) ⟨rfl, rfl, rfl, rfl, rfl, rfl, trivial⟩

set_option maxRecDepth 20000 in
theorem LC_best {K : GK} {Γ : GX} {Po : GP} {mn : String} {b0 len : Nat} {xs : Nat → Int32} (hC : gC K Γ cL_law 9 RL mn 14 601024 7293034 (some .boolean) Po) (hZ9 : gCZ K Γ) (hS9 : gSc Γ b0 len xs) (hlen : len ≤ 2048) {i a z k9 n9 : Nat} {L : List Nat} {σ : GS} {th : Int32} (hi : i + 4 ≤ len) (hI : wI K a th z L σ) (hk : k9 ≤ 600 + i) (hn : n9 ≤ 30000 + 7 * i) (hb : ∀ (th9 : Int32) (z9 kk9 nn9 : Nat) (L9 : List Nat) (σ9 : GS), wI K a th9 z9 L9 σ9 → kk9 ≤ 604 + i → nn9 ≤ 30028 + 7 * i → G K Γ (z9, kk9, nn9, L9) σ9 1631 [some (.ref b0), some (.ref a), some (.ref (a + 506)), some (.ref (a + 524)), some (.ref (a + 525)), some (.int (nI i)), none, none, none] []) : G K Γ (z, k9, n9, L) σ 1267 [some (.ref b0), some (.ref a), some (.ref (a + 506)), some (.ref (a + 524)), some (.ref (a + 525)), some (.int (nI i)), none, none, none] [] := by
  obtain ⟨⟨ma, fsa, sa⟩, ⟨mM0, fsM0, sM0⟩, _⟩ := wI_S hI
  refine g_aload_n (n := 1268) hC rfl dL_law_1267 ?_
  refine g_aload_n (n := 1269) hC rfl dL_law_1268 ?_
  refine g_iload (n := 1271) hC rfl dL_law_1269 ?_
  refine g_iconst (n := 1272) (v := (nI 1)) hC (by decide) dL_law_1271 ?_
  refine g_iaddN (n := 1273) hC dL_law_1272 ?_
  refine g_sld (n := 1274) (j := i + 1) hC hS9 rfl (by omega) (by omega) dL_law_1273 ?_
  refine g_aload_n (n := 1275) hC rfl dL_law_1274 ?_
  refine g_iload (n := 1277) hC rfl dL_law_1275 ?_
  refine g_iconst (n := 1278) (v := (nI 2)) hC (by decide) dL_law_1277 ?_
  refine g_iaddN (n := 1279) hC dL_law_1278 ?_
  refine g_sld (n := 1280) (j := i + 2) hC hS9 rfl (by omega) (by omega) dL_law_1279 ?_
  refine g_aload_n (n := 1281) hC rfl dL_law_1280 ?_
  refine g_callW (r := []) hC hZ9 gw_L_167 (C_best K hI (xs (i + 1)) (xs (i + 2))) (by decide) (by decide) rfl rfl (Nat.le_of_ble_eq_true rfl) ⟨by show k9 + 1 ≤ 601024; omega, by show n9 + 7 ≤ 7293034; omega⟩ dL_law_1281 (fun rv z1 L1 σ1 hp => ?_)
  obtain ⟨k, hk3, rfl, ⟨mM, fsM, sM⟩, hM⟩ := hp
  refine g_istore (n := 1286) (ll1 := [some (.ref b0), some (.ref a), some (.ref (a + 506)), some (.ref (a + 524)), some (.ref (a + 525)), some (.int (nI i)), some (.int (nI k)), none, none]) hC dL_law_1284 rfl ?_
  refine g_aload_n (n := 1287) hC rfl dL_law_1286 ?_
  refine g_aload_n (n := 1288) hC rfl dL_law_1287 ?_
  refine g_iload (n := 1290) hC rfl dL_law_1288 ?_
  refine g_iconst (n := 1291) (v := (nI 1)) hC (by decide) dL_law_1290 ?_
  refine g_iaddN (n := 1292) hC dL_law_1291 ?_
  refine g_sld (n := 1293) (j := i + 1) hC hS9 rfl (by omega) (by omega) dL_law_1292 ?_
  refine g_aload_n (n := 1294) hC rfl dL_law_1293 ?_
  refine g_iload (n := 1296) hC rfl dL_law_1294 ?_
  refine g_iconst (n := 1297) (v := (nI 2)) hC (by decide) dL_law_1296 ?_
  refine g_iaddN (n := 1298) hC dL_law_1297 ?_
  refine g_sld (n := 1299) (j := i + 2) hC hS9 rfl (by omega) (by omega) dL_law_1298 ?_
  refine g_callV (r := []) hC gv_L_169 hM mM sM rfl (by decide) (by decide) rfl rfl (Nat.le_of_ble_eq_true rfl) ⟨by show k9 + 1 ≤ 601024; omega, by show n9 + 7 ≤ 7293034; omega⟩ dL_law_1299 (fun rv z2 L2 σ2 hp => ?_)
  obtain ⟨⟨u, ⟨vv, rfl, eu⟩, hout⟩, hI2⟩ := hp
  refine g_istore (n := 1304) (ll1 := [some (.ref b0), some (.ref a), some (.ref (a + 506)), some (.ref (a + 524)), some (.ref (a + 525)), some (.int (nI i)), some (.int (nI k)), some (.int vv), none]) hC dL_law_1302 rfl ?_
  refine g_aload_n (n := 1305) hC rfl dL_law_1304 ?_
  obtain ⟨_, ⟨mM2, fs2, sM2⟩, hS2⟩ := wI_S hI2
  refine g_cV (n := 1308) hC gv_L_107 mM2 sM2 (wI_th hI2) dL_law_1305 ?_ (hroom := ⟨by show k9 + 1 ≤ 601024; omega, by show n9 + 7 ≤ 7293034; omega⟩)
  refine g_iload (n := 1310) hC rfl dL_law_1308 ?_
  refine g_icmp_eq (n := 1313) (tgt := 1315) hC dL_law_1310 (fun _ => ?_) (fun q9 => absurd rfl q9)
  refine g_iload (n := 1317) hC rfl dL_law_1315 ?_
  refine g_if_ne (n := 1320) (tgt := 1332) hC dL_law_1317 (fun _ => ?_) (fun h0 => ?_)
  · refine g_goto (n := 1631) hC dL_law_1332 ?_
    exact G.le (hb (nI k) z2 (k9 + 1) (n9 + 7) L2 σ2 hI2 (by omega) (by omega)) ⟨rfl, rfl, rfl, rfl, rfl, rfl, trivial⟩
  have hk0 : k = 0 := ni (h0.trans nI_0.symm)
  obtain ⟨f, hf, hf0⟩ := hout hk0
  refine g_aload_n (n := 1321) hC rfl dL_law_1320 ?_
  refine g_iconst (n := 1322) (v := (nI 0)) hC (by decide) dL_law_1321 ?_
  refine g_lald (n := 1323) (j := 0) (f := f) hC hS2.1.1 hf rfl (by omega) (by omega) dL_law_1322 ?_
  refine g_iload (n := 1325) hC rfl dL_law_1323 ?_
  refine g_i2l (n := 1326) (v := vv.toInt64) hC rfl dL_law_1325 ?_
  refine g_lcmp_eq (n := 1330) (tgt := 1332) hC dL_law_1326 dL_law_1327 (fun _ => ?_) (fun q9 => absurd (hf0.trans eu) q9)
  refine g_goto (n := 1631) hC dL_law_1332 ?_
  exact G.le (hb (nI k) z2 (k9 + 1) (n9 + 7) L2 σ2 hI2 (by omega) (by omega)) ⟨rfl, rfl, rfl, rfl, rfl, rfl, trivial⟩

set_option maxRecDepth 20000 in
theorem LC_levels {K : GK} {Γ : GX} {Po : GP} {mn : String} {b0 len : Nat} {xs : Nat → Int32} (hC : gC K Γ cL_law 9 RL mn 14 601024 7293034 (some .boolean) Po) (hZ9 : gCZ K Γ) (hS9 : gSc Γ b0 len xs) (hlen : len ≤ 2048) {i a z k9 n9 : Nat} {L : List Nat} {σ : GS} {th : Int32} (hi : i + 4 ≤ len) (hI : wI K a th z L σ) (hk : k9 ≤ 600 + i) (hn : n9 ≤ 30000 + 7 * i) (hb : ∀ (th9 : Int32) (z9 kk9 nn9 : Nat) (L9 : List Nat) (σ9 : GS), wI K a th9 z9 L9 σ9 → kk9 ≤ 604 + i → nn9 ≤ 30028 + 7 * i → G K Γ (z9, kk9, nn9, L9) σ9 1631 [some (.ref b0), some (.ref a), some (.ref (a + 506)), some (.ref (a + 524)), some (.ref (a + 525)), some (.int (nI i)), none, none, none] []) : G K Γ (z, k9, n9, L) σ 1335 [some (.ref b0), some (.ref a), some (.ref (a + 506)), some (.ref (a + 524)), some (.ref (a + 525)), some (.int (nI i)), none, none, none] [] := by
  obtain ⟨⟨ma, fsa, sa⟩, ⟨mM0, fsM0, sM0⟩, _⟩ := wI_S hI
  obtain ⟨v, σ2, h1, h2, hI2⟩ := C_levels K hI
  refine g_aload_n (n := 1336) hC rfl dL_law_1335 ?_
  refine g_cV (n := 1339) hC gv_L_170 ma sa h1 dL_law_1336 ?_ (hroom := ⟨by show k9 ≤ 601024; omega, by show n9 ≤ 7293034; omega⟩)
  refine g_aload_n (n := 1340) hC rfl dL_law_1339 ?_
  refine g_cV (n := 1343) hC gv_L_173 mM0 sM0 h2 dL_law_1340 ?_ (hroom := ⟨by show k9 ≤ 601024; omega, by show n9 ≤ 7293034; omega⟩)
  refine g_icmp_eq (n := 1346) (tgt := 1631) hC dL_law_1343 (fun _ => ?_) (fun q9 => absurd rfl q9)
  exact G.le (hb (nI 0) z (k9) (n9) L σ2 hI2 (by omega) (by omega)) ⟨rfl, rfl, rfl, rfl, rfl, rfl, trivial⟩

set_option maxRecDepth 20000 in
theorem LC_report {K : GK} {Γ : GX} {Po : GP} {mn : String} {b0 len : Nat} {xs : Nat → Int32} (hC : gC K Γ cL_law 9 RL mn 14 601024 7293034 (some .boolean) Po) (hZ9 : gCZ K Γ) (hS9 : gSc Γ b0 len xs) (hlen : len ≤ 2048) {i a z k9 n9 : Nat} {L : List Nat} {σ : GS} {th : Int32} (hi : i + 4 ≤ len) (hI : wI K a th z L σ) (hk : k9 ≤ 600 + i) (hn : n9 ≤ 30000 + 7 * i) (hb : ∀ (th9 : Int32) (z9 kk9 nn9 : Nat) (L9 : List Nat) (σ9 : GS), wI K a th9 z9 L9 σ9 → kk9 ≤ 604 + i → nn9 ≤ 30028 + 7 * i → G K Γ (z9, kk9, nn9, L9) σ9 1631 [some (.ref b0), some (.ref a), some (.ref (a + 506)), some (.ref (a + 524)), some (.ref (a + 525)), some (.int (nI i)), none, none, none] []) : G K Γ (z, k9, n9, L) σ 1348 [some (.ref b0), some (.ref a), some (.ref (a + 506)), some (.ref (a + 524)), some (.ref (a + 525)), some (.int (nI i)), none, none, none] [] := by
  obtain ⟨⟨ma, fsa, sa⟩, ⟨mM0, fsM0, sM0⟩, _⟩ := wI_S hI
  refine g_aload_n (n := 1349) hC rfl dL_law_1348 ?_
  refine g_aload_n (n := 1350) hC rfl dL_law_1349 ?_
  refine g_iload (n := 1352) hC rfl dL_law_1350 ?_
  refine g_iconst (n := 1353) (v := (nI 1)) hC (by decide) dL_law_1352 ?_
  refine g_iaddN (n := 1354) hC dL_law_1353 ?_
  refine g_sld (n := 1355) (j := i + 1) hC hS9 rfl (by omega) (by omega) dL_law_1354 ?_
  refine g_aload_n (n := 1356) hC rfl dL_law_1355 ?_
  refine g_iload (n := 1358) hC rfl dL_law_1356 ?_
  refine g_iconst (n := 1359) (v := (nI 2)) hC (by decide) dL_law_1358 ?_
  refine g_iaddN (n := 1360) hC dL_law_1359 ?_
  refine g_sld (n := 1361) (j := i + 2) hC hS9 rfl (by omega) (by omega) dL_law_1360 ?_
  refine g_aload_n (n := 1362) hC rfl dL_law_1361 ?_
  refine g_callW (r := []) hC hZ9 gw_L_174 (C_report K hI (xs (i + 1)) (xs (i + 2))) (by decide) (by decide) rfl rfl (Nat.le_of_ble_eq_true rfl) ⟨by show k9 + 1 ≤ 601024; omega, by show n9 + 7 ≤ 7293034; omega⟩ dL_law_1362 (fun rv z1 L1 σ1 hp => ?_)
  obtain ⟨k, hk3, rfl, ⟨mM, fsM, sM⟩, hM⟩ := hp
  refine g_istore (n := 1367) (ll1 := [some (.ref b0), some (.ref a), some (.ref (a + 506)), some (.ref (a + 524)), some (.ref (a + 525)), some (.int (nI i)), some (.int (nI k)), none, none]) hC dL_law_1365 rfl ?_
  refine g_aload_n (n := 1368) hC rfl dL_law_1367 ?_
  refine g_aload_n (n := 1369) hC rfl dL_law_1368 ?_
  refine g_iload (n := 1371) hC rfl dL_law_1369 ?_
  refine g_iconst (n := 1372) (v := (nI 1)) hC (by decide) dL_law_1371 ?_
  refine g_iaddN (n := 1373) hC dL_law_1372 ?_
  refine g_sld (n := 1374) (j := i + 1) hC hS9 rfl (by omega) (by omega) dL_law_1373 ?_
  refine g_aload_n (n := 1375) hC rfl dL_law_1374 ?_
  refine g_iload (n := 1377) hC rfl dL_law_1375 ?_
  refine g_iconst (n := 1378) (v := (nI 2)) hC (by decide) dL_law_1377 ?_
  refine g_iaddN (n := 1379) hC dL_law_1378 ?_
  refine g_sld (n := 1380) (j := i + 2) hC hS9 rfl (by omega) (by omega) dL_law_1379 ?_
  refine g_callV (r := []) hC gv_L_176 hM mM sM rfl (by decide) (by decide) rfl rfl (Nat.le_of_ble_eq_true rfl) ⟨by show k9 + 1 ≤ 601024; omega, by show n9 + 7 ≤ 7293034; omega⟩ dL_law_1380 (fun rv z2 L2 σ2 hp => ?_)
  obtain ⟨⟨u, ⟨vv, rfl, eu⟩, hout⟩, hI2⟩ := hp
  refine g_istore (n := 1385) (ll1 := [some (.ref b0), some (.ref a), some (.ref (a + 506)), some (.ref (a + 524)), some (.ref (a + 525)), some (.int (nI i)), some (.int (nI k)), some (.int vv), none]) hC dL_law_1383 rfl ?_
  refine g_aload_n (n := 1386) hC rfl dL_law_1385 ?_
  obtain ⟨_, ⟨mM2, fs2, sM2⟩, hS2⟩ := wI_S hI2
  refine g_cV (n := 1389) hC gv_L_107 mM2 sM2 (wI_th hI2) dL_law_1386 ?_ (hroom := ⟨by show k9 + 1 ≤ 601024; omega, by show n9 + 7 ≤ 7293034; omega⟩)
  refine g_iload (n := 1391) hC rfl dL_law_1389 ?_
  refine g_icmp_eq (n := 1394) (tgt := 1396) hC dL_law_1391 (fun _ => ?_) (fun q9 => absurd rfl q9)
  refine g_iload (n := 1398) hC rfl dL_law_1396 ?_
  refine g_if_ne (n := 1401) (tgt := 1413) hC dL_law_1398 (fun _ => ?_) (fun h0 => ?_)
  · refine g_goto (n := 1631) hC dL_law_1413 ?_
    exact G.le (hb (nI k) z2 (k9 + 1) (n9 + 7) L2 σ2 hI2 (by omega) (by omega)) ⟨rfl, rfl, rfl, rfl, rfl, rfl, trivial⟩
  have hk0 : k = 0 := ni (h0.trans nI_0.symm)
  obtain ⟨f, hf, hf0⟩ := hout hk0
  refine g_aload_n (n := 1402) hC rfl dL_law_1401 ?_
  refine g_iconst (n := 1403) (v := (nI 0)) hC (by decide) dL_law_1402 ?_
  refine g_lald (n := 1404) (j := 0) (f := f) hC hS2.1.1 hf rfl (by omega) (by omega) dL_law_1403 ?_
  refine g_iload (n := 1406) hC rfl dL_law_1404 ?_
  refine g_i2l (n := 1407) (v := vv.toInt64) hC rfl dL_law_1406 ?_
  refine g_lcmp_eq (n := 1411) (tgt := 1413) hC dL_law_1407 dL_law_1408 (fun _ => ?_) (fun q9 => absurd (hf0.trans eu) q9)
  refine g_goto (n := 1631) hC dL_law_1413 ?_
  exact G.le (hb (nI k) z2 (k9 + 1) (n9 + 7) L2 σ2 hI2 (by omega) (by omega)) ⟨rfl, rfl, rfl, rfl, rfl, rfl, trivial⟩

set_option maxRecDepth 20000 in
theorem LC_feed {K : GK} {Γ : GX} {Po : GP} {mn : String} {b0 len : Nat} {xs : Nat → Int32} (hC : gC K Γ cL_law 9 RL mn 14 601024 7293034 (some .boolean) Po) (hZ9 : gCZ K Γ) (hS9 : gSc Γ b0 len xs) (hlen : len ≤ 2048) {i a z k9 n9 : Nat} {L : List Nat} {σ : GS} {th : Int32} (hi : i + 4 ≤ len) (hI : wI K a th z L σ) (hk : k9 ≤ 600 + i) (hn : n9 ≤ 30000 + 7 * i) (hb : ∀ (th9 : Int32) (z9 kk9 nn9 : Nat) (L9 : List Nat) (σ9 : GS), wI K a th9 z9 L9 σ9 → kk9 ≤ 604 + i → nn9 ≤ 30028 + 7 * i → G K Γ (z9, kk9, nn9, L9) σ9 1631 [some (.ref b0), some (.ref a), some (.ref (a + 506)), some (.ref (a + 524)), some (.ref (a + 525)), some (.int (nI i)), none, none, none] []) : G K Γ (z, k9, n9, L) σ 1416 [some (.ref b0), some (.ref a), some (.ref (a + 506)), some (.ref (a + 524)), some (.ref (a + 525)), some (.int (nI i)), none, none, none] [] := by
  obtain ⟨⟨ma, fsa, sa⟩, ⟨mM0, fsM0, sM0⟩, _⟩ := wI_S hI
  refine g_aload_n (n := 1417) hC rfl dL_law_1416 ?_
  refine g_aload_n (n := 1418) hC rfl dL_law_1417 ?_
  refine g_iload (n := 1420) hC rfl dL_law_1418 ?_
  refine g_iconst (n := 1421) (v := (nI 1)) hC (by decide) dL_law_1420 ?_
  refine g_iaddN (n := 1422) hC dL_law_1421 ?_
  refine g_sld (n := 1423) (j := i + 1) hC hS9 rfl (by omega) (by omega) dL_law_1422 ?_
  obtain ⟨v9, hv9, ev9⟩ := c16 (xs (i + 1))
  refine g_i2c (n := 1424) (v := nI v9) hC ev9 dL_law_1423 ?_
  refine g_aload_n (n := 1425) hC rfl dL_law_1424 ?_
  refine g_callW (r := []) hC hZ9 gw_L_177 (C_feed K hI hv9) (by decide) (by decide) rfl rfl (Nat.le_of_ble_eq_true rfl) ⟨by show k9 + 1 ≤ 601024; omega, by show n9 + 7 ≤ 7293034; omega⟩ dL_law_1425 (fun rv z1 L1 σ1 hp => ?_)
  obtain ⟨k, hk3, rfl, ⟨mM, fsM, sM⟩, hM⟩ := hp
  refine g_istore (n := 1430) (ll1 := [some (.ref b0), some (.ref a), some (.ref (a + 506)), some (.ref (a + 524)), some (.ref (a + 525)), some (.int (nI i)), some (.int (nI k)), none, none]) hC dL_law_1428 rfl ?_
  refine g_aload_n (n := 1431) hC rfl dL_law_1430 ?_
  refine g_aload_n (n := 1432) hC rfl dL_law_1431 ?_
  refine g_iload (n := 1434) hC rfl dL_law_1432 ?_
  refine g_iconst (n := 1435) (v := (nI 1)) hC (by decide) dL_law_1434 ?_
  refine g_iaddN (n := 1436) hC dL_law_1435 ?_
  refine g_sld (n := 1437) (j := i + 1) hC hS9 rfl (by omega) (by omega) dL_law_1436 ?_
  refine g_i2c (n := 1438) (v := nI v9) hC ev9 dL_law_1437 ?_
  refine g_callV (r := []) hC gv_L_180 hM mM sM rfl (by decide) (by decide) rfl rfl (Nat.le_of_ble_eq_true rfl) ⟨by show k9 + 1 ≤ 601024; omega, by show n9 + 7 ≤ 7293034; omega⟩ dL_law_1438 (fun rv z2 L2 σ2 hp => ?_)
  obtain ⟨⟨u, ⟨vv, rfl, eu⟩, hout⟩, hI2⟩ := hp
  refine g_istore (n := 1443) (ll1 := [some (.ref b0), some (.ref a), some (.ref (a + 506)), some (.ref (a + 524)), some (.ref (a + 525)), some (.int (nI i)), some (.int (nI k)), some (.int vv), none]) hC dL_law_1441 rfl ?_
  refine g_aload_n (n := 1444) hC rfl dL_law_1443 ?_
  obtain ⟨_, ⟨mM2, fs2, sM2⟩, hS2⟩ := wI_S hI2
  refine g_cV (n := 1447) hC gv_L_107 mM2 sM2 (wI_th hI2) dL_law_1444 ?_ (hroom := ⟨by show k9 + 1 ≤ 601024; omega, by show n9 + 7 ≤ 7293034; omega⟩)
  refine g_iload (n := 1449) hC rfl dL_law_1447 ?_
  refine g_icmp_eq (n := 1452) (tgt := 1454) hC dL_law_1449 (fun _ => ?_) (fun q9 => absurd rfl q9)
  refine g_iload (n := 1456) hC rfl dL_law_1454 ?_
  refine g_if_ne (n := 1459) (tgt := 1471) hC dL_law_1456 (fun _ => ?_) (fun h0 => ?_)
  · refine g_goto (n := 1631) hC dL_law_1471 ?_
    exact G.le (hb (nI k) z2 (k9 + 1) (n9 + 7) L2 σ2 hI2 (by omega) (by omega)) ⟨rfl, rfl, rfl, rfl, rfl, rfl, trivial⟩
  have hk0 : k = 0 := ni (h0.trans nI_0.symm)
  obtain ⟨f, hf, hf0⟩ := hout hk0
  refine g_aload_n (n := 1460) hC rfl dL_law_1459 ?_
  refine g_iconst (n := 1461) (v := (nI 0)) hC (by decide) dL_law_1460 ?_
  refine g_lald (n := 1462) (j := 0) (f := f) hC hS2.1.1 hf rfl (by omega) (by omega) dL_law_1461 ?_
  refine g_iload (n := 1464) hC rfl dL_law_1462 ?_
  refine g_i2l (n := 1465) (v := vv.toInt64) hC rfl dL_law_1464 ?_
  refine g_lcmp_eq (n := 1469) (tgt := 1471) hC dL_law_1465 dL_law_1466 (fun _ => ?_) (fun q9 => absurd (hf0.trans eu) q9)
  refine g_goto (n := 1631) hC dL_law_1471 ?_
  exact G.le (hb (nI k) z2 (k9 + 1) (n9 + 7) L2 σ2 hI2 (by omega) (by omega)) ⟨rfl, rfl, rfl, rfl, rfl, rfl, trivial⟩

set_option maxRecDepth 20000 in
theorem LC_readRecord {K : GK} {Γ : GX} {Po : GP} {mn : String} {b0 len : Nat} {xs : Nat → Int32} (hC : gC K Γ cL_law 9 RL mn 14 601024 7293034 (some .boolean) Po) (hZ9 : gCZ K Γ) (hS9 : gSc Γ b0 len xs) (hlen : len ≤ 2048) {i a z k9 n9 : Nat} {L : List Nat} {σ : GS} {th : Int32} (hi : i + 4 ≤ len) (hI : wI K a th z L σ) (hk : k9 ≤ 600 + i) (hn : n9 ≤ 30000 + 7 * i) (hb : ∀ (th9 : Int32) (z9 kk9 nn9 : Nat) (L9 : List Nat) (σ9 : GS), wI K a th9 z9 L9 σ9 → kk9 ≤ 604 + i → nn9 ≤ 30028 + 7 * i → G K Γ (z9, kk9, nn9, L9) σ9 1631 [some (.ref b0), some (.ref a), some (.ref (a + 506)), some (.ref (a + 524)), some (.ref (a + 525)), some (.int (nI i)), none, none, none] []) : G K Γ (z, k9, n9, L) σ 1474 [some (.ref b0), some (.ref a), some (.ref (a + 506)), some (.ref (a + 524)), some (.ref (a + 525)), some (.int (nI i)), none, none, none] [] := by
  obtain ⟨⟨ma, fsa, sa⟩, ⟨mM0, fsM0, sM0⟩, _⟩ := wI_S hI
  refine g_aload_n (n := 1475) hC rfl dL_law_1474 ?_
  refine g_aload_n (n := 1476) hC rfl dL_law_1475 ?_
  refine g_callW (r := []) hC hZ9 gw_L_181 (C_readRecord K hI) (by decide) (by decide) rfl rfl (Nat.le_of_ble_eq_true rfl) ⟨by show k9 + 1 ≤ 601024; omega, by show n9 + 7 ≤ 7293034; omega⟩ dL_law_1476 (fun rv z1 L1 σ1 hp => ?_)
  obtain ⟨k, hk3, rfl, ⟨mM, fsM, sM⟩, hM⟩ := hp
  refine g_istore (n := 1481) (ll1 := [some (.ref b0), some (.ref a), some (.ref (a + 506)), some (.ref (a + 524)), some (.ref (a + 525)), some (.int (nI i)), some (.int (nI k)), none, none]) hC dL_law_1479 rfl ?_
  refine g_aload_n (n := 1482) hC rfl dL_law_1481 ?_
  refine g_callV (r := []) hC gv_L_183 hM mM sM rfl (by decide) (by decide) rfl rfl (Nat.le_of_ble_eq_true rfl) ⟨by show k9 + 1 ≤ 601024; omega, by show n9 + 7 ≤ 7293034; omega⟩ dL_law_1482 (fun rv z2 L2 σ2 hp => ?_)
  obtain ⟨⟨u, ⟨vv, rfl, eu⟩, hout⟩, hI2⟩ := hp
  refine g_istore (n := 1487) (ll1 := [some (.ref b0), some (.ref a), some (.ref (a + 506)), some (.ref (a + 524)), some (.ref (a + 525)), some (.int (nI i)), some (.int (nI k)), some (.int vv), none]) hC dL_law_1485 rfl ?_
  refine g_aload_n (n := 1488) hC rfl dL_law_1487 ?_
  obtain ⟨_, ⟨mM2, fs2, sM2⟩, hS2⟩ := wI_S hI2
  refine g_cV (n := 1491) hC gv_L_107 mM2 sM2 (wI_th hI2) dL_law_1488 ?_ (hroom := ⟨by show k9 + 1 ≤ 601024; omega, by show n9 + 7 ≤ 7293034; omega⟩)
  refine g_iload (n := 1493) hC rfl dL_law_1491 ?_
  refine g_icmp_eq (n := 1496) (tgt := 1498) hC dL_law_1493 (fun _ => ?_) (fun q9 => absurd rfl q9)
  refine g_iload (n := 1500) hC rfl dL_law_1498 ?_
  refine g_if_ne (n := 1503) (tgt := 1515) hC dL_law_1500 (fun _ => ?_) (fun h0 => ?_)
  · refine g_goto (n := 1631) hC dL_law_1515 ?_
    exact G.le (hb (nI k) z2 (k9 + 1) (n9 + 7) L2 σ2 hI2 (by omega) (by omega)) ⟨rfl, rfl, rfl, rfl, rfl, rfl, trivial⟩
  have hk0 : k = 0 := ni (h0.trans nI_0.symm)
  obtain ⟨f, hf, hf0⟩ := hout hk0
  refine g_aload_n (n := 1504) hC rfl dL_law_1503 ?_
  refine g_iconst (n := 1505) (v := (nI 0)) hC (by decide) dL_law_1504 ?_
  refine g_lald (n := 1506) (j := 0) (f := f) hC hS2.1.1 hf rfl (by omega) (by omega) dL_law_1505 ?_
  refine g_iload (n := 1508) hC rfl dL_law_1506 ?_
  refine g_i2l (n := 1509) (v := vv.toInt64) hC rfl dL_law_1508 ?_
  refine g_lcmp_eq (n := 1513) (tgt := 1515) hC dL_law_1509 dL_law_1510 (fun _ => ?_) (fun q9 => absurd (hf0.trans eu) q9)
  refine g_goto (n := 1631) hC dL_law_1515 ?_
  exact G.le (hb (nI k) z2 (k9 + 1) (n9 + 7) L2 σ2 hI2 (by omega) (by omega)) ⟨rfl, rfl, rfl, rfl, rfl, rfl, trivial⟩

set_option maxRecDepth 20000 in
theorem LC_written {K : GK} {Γ : GX} {Po : GP} {mn : String} {b0 len : Nat} {xs : Nat → Int32} (hC : gC K Γ cL_law 9 RL mn 14 601024 7293034 (some .boolean) Po) (hZ9 : gCZ K Γ) (hS9 : gSc Γ b0 len xs) (hlen : len ≤ 2048) {i a z k9 n9 : Nat} {L : List Nat} {σ : GS} {th : Int32} (hi : i + 4 ≤ len) (hI : wI K a th z L σ) (hk : k9 ≤ 600 + i) (hn : n9 ≤ 30000 + 7 * i) (hb : ∀ (th9 : Int32) (z9 kk9 nn9 : Nat) (L9 : List Nat) (σ9 : GS), wI K a th9 z9 L9 σ9 → kk9 ≤ 604 + i → nn9 ≤ 30028 + 7 * i → G K Γ (z9, kk9, nn9, L9) σ9 1631 [some (.ref b0), some (.ref a), some (.ref (a + 506)), some (.ref (a + 524)), some (.ref (a + 525)), some (.int (nI i)), none, none, none] []) : G K Γ (z, k9, n9, L) σ 1518 [some (.ref b0), some (.ref a), some (.ref (a + 506)), some (.ref (a + 524)), some (.ref (a + 525)), some (.int (nI i)), none, none, none] [] := by
  obtain ⟨⟨ma, fsa, sa⟩, ⟨mM0, fsM0, sM0⟩, _⟩ := wI_S hI
  refine g_aload_n (n := 1519) hC rfl dL_law_1518 ?_
  refine g_aload_n (n := 1520) hC rfl dL_law_1519 ?_
  refine g_iload (n := 1522) hC rfl dL_law_1520 ?_
  refine g_iconst (n := 1523) (v := (nI 1)) hC (by decide) dL_law_1522 ?_
  refine g_iaddN (n := 1524) hC dL_law_1523 ?_
  refine g_sld (n := 1525) (j := i + 1) hC hS9 rfl (by omega) (by omega) dL_law_1524 ?_
  refine g_aload_n (n := 1526) hC rfl dL_law_1525 ?_
  refine g_callW (r := []) hC hZ9 gw_L_184 (C_written K hI (xs (i + 1))) (by decide) (by decide) rfl rfl (Nat.le_of_ble_eq_true rfl) ⟨by show k9 + 1 ≤ 601024; omega, by show n9 + 7 ≤ 7293034; omega⟩ dL_law_1526 (fun rv z1 L1 σ1 hp => ?_)
  obtain ⟨k, hk3, rfl, ⟨mM, fsM, sM⟩, hM⟩ := hp
  refine g_istore (n := 1531) (ll1 := [some (.ref b0), some (.ref a), some (.ref (a + 506)), some (.ref (a + 524)), some (.ref (a + 525)), some (.int (nI i)), some (.int (nI k)), none, none]) hC dL_law_1529 rfl ?_
  refine g_aload_n (n := 1532) hC rfl dL_law_1531 ?_
  refine g_aload_n (n := 1533) hC rfl dL_law_1532 ?_
  refine g_iload (n := 1535) hC rfl dL_law_1533 ?_
  refine g_iconst (n := 1536) (v := (nI 1)) hC (by decide) dL_law_1535 ?_
  refine g_iaddN (n := 1537) hC dL_law_1536 ?_
  refine g_sld (n := 1538) (j := i + 1) hC hS9 rfl (by omega) (by omega) dL_law_1537 ?_
  refine g_callV (r := []) hC gv_L_186 hM mM sM rfl (by decide) (by decide) rfl rfl (Nat.le_of_ble_eq_true rfl) ⟨by show k9 + 1 ≤ 601024; omega, by show n9 + 7 ≤ 7293034; omega⟩ dL_law_1538 (fun rv z2 L2 σ2 hp => ?_)
  obtain ⟨⟨u, ⟨vv, rfl, eu⟩, hout⟩, hI2⟩ := hp
  refine g_istore (n := 1543) (ll1 := [some (.ref b0), some (.ref a), some (.ref (a + 506)), some (.ref (a + 524)), some (.ref (a + 525)), some (.int (nI i)), some (.int (nI k)), some (.int vv), none]) hC dL_law_1541 rfl ?_
  refine g_aload_n (n := 1544) hC rfl dL_law_1543 ?_
  obtain ⟨_, ⟨mM2, fs2, sM2⟩, hS2⟩ := wI_S hI2
  refine g_cV (n := 1547) hC gv_L_107 mM2 sM2 (wI_th hI2) dL_law_1544 ?_ (hroom := ⟨by show k9 + 1 ≤ 601024; omega, by show n9 + 7 ≤ 7293034; omega⟩)
  refine g_iload (n := 1549) hC rfl dL_law_1547 ?_
  refine g_icmp_eq (n := 1552) (tgt := 1554) hC dL_law_1549 (fun _ => ?_) (fun q9 => absurd rfl q9)
  refine g_iload (n := 1556) hC rfl dL_law_1554 ?_
  refine g_if_ne (n := 1559) (tgt := 1571) hC dL_law_1556 (fun _ => ?_) (fun h0 => ?_)
  · refine g_goto (n := 1631) hC dL_law_1571 ?_
    exact G.le (hb (nI k) z2 (k9 + 1) (n9 + 7) L2 σ2 hI2 (by omega) (by omega)) ⟨rfl, rfl, rfl, rfl, rfl, rfl, trivial⟩
  have hk0 : k = 0 := ni (h0.trans nI_0.symm)
  obtain ⟨f, hf, hf0⟩ := hout hk0
  refine g_aload_n (n := 1560) hC rfl dL_law_1559 ?_
  refine g_iconst (n := 1561) (v := (nI 0)) hC (by decide) dL_law_1560 ?_
  refine g_lald (n := 1562) (j := 0) (f := f) hC hS2.1.1 hf rfl (by omega) (by omega) dL_law_1561 ?_
  refine g_iload (n := 1564) hC rfl dL_law_1562 ?_
  refine g_i2l (n := 1565) (v := vv.toInt64) hC rfl dL_law_1564 ?_
  refine g_lcmp_eq (n := 1569) (tgt := 1571) hC dL_law_1565 dL_law_1566 (fun _ => ?_) (fun q9 => absurd (hf0.trans eu) q9)
  refine g_goto (n := 1631) hC dL_law_1571 ?_
  exact G.le (hb (nI k) z2 (k9 + 1) (n9 + 7) L2 σ2 hI2 (by omega) (by omega)) ⟨rfl, rfl, rfl, rfl, rfl, rfl, trivial⟩

set_option maxRecDepth 20000 in
theorem LC_save {K : GK} {Γ : GX} {Po : GP} {mn : String} {b0 len : Nat} {xs : Nat → Int32} (hC : gC K Γ cL_law 9 RL mn 14 601024 7293034 (some .boolean) Po) (hZ9 : gCZ K Γ) (hS9 : gSc Γ b0 len xs) (hlen : len ≤ 2048) {i a z k9 n9 : Nat} {L : List Nat} {σ : GS} {th : Int32} (hi : i + 4 ≤ len) (hI : wI K a th z L σ) (hk : k9 ≤ 600 + i) (hn : n9 ≤ 30000 + 7 * i) (hb : ∀ (th9 : Int32) (z9 kk9 nn9 : Nat) (L9 : List Nat) (σ9 : GS), wI K a th9 z9 L9 σ9 → kk9 ≤ 604 + i → nn9 ≤ 30028 + 7 * i → G K Γ (z9, kk9, nn9, L9) σ9 1631 [some (.ref b0), some (.ref a), some (.ref (a + 506)), some (.ref (a + 524)), some (.ref (a + 525)), some (.int (nI i)), none, none, none] []) : G K Γ (z, k9, n9, L) σ 1574 [some (.ref b0), some (.ref a), some (.ref (a + 506)), some (.ref (a + 524)), some (.ref (a + 525)), some (.int (nI i)), none, none, none] [] := by
  obtain ⟨⟨ma, fsa, sa⟩, ⟨mM0, fsM0, sM0⟩, _⟩ := wI_S hI
  obtain ⟨v, σ1, σ2, h1, ⟨mM, fsM, sM⟩, h2, hI2⟩ := C_save K hI
  refine g_aload_n (n := 1575) hC rfl dL_law_1574 ?_
  refine g_cV (n := 1578) hC gv_L_187 ma sa h1 dL_law_1575 ?_ (hroom := ⟨by show k9 ≤ 601024; omega, by show n9 ≤ 7293034; omega⟩)
  refine g_aload_n (n := 1579) hC rfl dL_law_1578 ?_
  refine g_cV (n := 1582) hC gv_L_190 mM sM h2 dL_law_1579 ?_ (hroom := ⟨by show k9 ≤ 601024; omega, by show n9 ≤ 7293034; omega⟩)
  refine g_icmp_eq (n := 1585) (tgt := 1631) hC dL_law_1582 (fun _ => ?_) (fun q9 => absurd rfl q9)
  exact G.le (hb (nI 0) z (k9) (n9) L σ2 hI2 (by omega) (by omega)) ⟨rfl, rfl, rfl, rfl, rfl, rfl, trivial⟩

set_option maxRecDepth 20000 in
theorem LC_restore {K : GK} {Γ : GX} {Po : GP} {mn : String} {b0 len : Nat} {xs : Nat → Int32} (hC : gC K Γ cL_law 9 RL mn 14 601024 7293034 (some .boolean) Po) (hZ9 : gCZ K Γ) (hS9 : gSc Γ b0 len xs) (hlen : len ≤ 2048) {i a z k9 n9 : Nat} {L : List Nat} {σ : GS} {th : Int32} (hi : i + 4 ≤ len) (hI : wI K a th z L σ) (hk : k9 ≤ 600 + i) (hn : n9 ≤ 30000 + 7 * i) (hb : ∀ (th9 : Int32) (z9 kk9 nn9 : Nat) (L9 : List Nat) (σ9 : GS), wI K a th9 z9 L9 σ9 → kk9 ≤ 604 + i → nn9 ≤ 30028 + 7 * i → G K Γ (z9, kk9, nn9, L9) σ9 1631 [some (.ref b0), some (.ref a), some (.ref (a + 506)), some (.ref (a + 524)), some (.ref (a + 525)), some (.int (nI i)), none, none, none] []) : G K Γ (z, k9, n9, L) σ 1587 [some (.ref b0), some (.ref a), some (.ref (a + 506)), some (.ref (a + 524)), some (.ref (a + 525)), some (.int (nI i)), none, none, none] [] := by
  obtain ⟨⟨ma, fsa, sa⟩, ⟨mM0, fsM0, sM0⟩, _⟩ := wI_S hI
  refine g_aload_n (n := 1588) hC rfl dL_law_1587 ?_
  refine g_aload_n (n := 1589) hC rfl dL_law_1588 ?_
  refine g_callW (r := []) hC hZ9 gw_L_191 (C_restore K hI) (by decide) (by decide) rfl rfl (Nat.le_of_ble_eq_true rfl) ⟨by show k9 + 1 ≤ 601024; omega, by show n9 + 7 ≤ 7293034; omega⟩ dL_law_1589 (fun rv z1 L1 σ1 hp => ?_)
  obtain ⟨k, hk3, rfl, ⟨mM, fsM, sM⟩, hM⟩ := hp
  refine g_istore (n := 1594) (ll1 := [some (.ref b0), some (.ref a), some (.ref (a + 506)), some (.ref (a + 524)), some (.ref (a + 525)), some (.int (nI i)), some (.int (nI k)), none, none]) hC dL_law_1592 rfl ?_
  refine g_aload_n (n := 1595) hC rfl dL_law_1594 ?_
  refine g_callV (r := []) hC gv_L_193 hM mM sM rfl (by decide) (by decide) rfl rfl (Nat.le_of_ble_eq_true rfl) ⟨by show k9 + 1 ≤ 601024; omega, by show n9 + 7 ≤ 7293034; omega⟩ dL_law_1595 (fun rv z2 L2 σ2 hp => ?_)
  obtain ⟨⟨u, ⟨vv, rfl, eu⟩, hout⟩, hI2⟩ := hp
  refine g_istore (n := 1600) (ll1 := [some (.ref b0), some (.ref a), some (.ref (a + 506)), some (.ref (a + 524)), some (.ref (a + 525)), some (.int (nI i)), some (.int (nI k)), some (.int vv), none]) hC dL_law_1598 rfl ?_
  refine g_aload_n (n := 1601) hC rfl dL_law_1600 ?_
  obtain ⟨_, ⟨mM2, fs2, sM2⟩, hS2⟩ := wI_S hI2
  refine g_cV (n := 1604) hC gv_L_107 mM2 sM2 (wI_th hI2) dL_law_1601 ?_ (hroom := ⟨by show k9 + 1 ≤ 601024; omega, by show n9 + 7 ≤ 7293034; omega⟩)
  refine g_iload (n := 1606) hC rfl dL_law_1604 ?_
  refine g_icmp_eq (n := 1609) (tgt := 1611) hC dL_law_1606 (fun _ => ?_) (fun q9 => absurd rfl q9)
  refine g_iload (n := 1613) hC rfl dL_law_1611 ?_
  refine g_if_ne (n := 1616) (tgt := 1628) hC dL_law_1613 (fun _ => ?_) (fun h0 => ?_)
  · refine g_goto (n := 1631) hC dL_law_1628 ?_
    exact G.le (hb (nI k) z2 (k9 + 1) (n9 + 7) L2 σ2 hI2 (by omega) (by omega)) ⟨rfl, rfl, rfl, rfl, rfl, rfl, trivial⟩
  have hk0 : k = 0 := ni (h0.trans nI_0.symm)
  obtain ⟨f, hf, hf0⟩ := hout hk0
  refine g_aload_n (n := 1617) hC rfl dL_law_1616 ?_
  refine g_iconst (n := 1618) (v := (nI 0)) hC (by decide) dL_law_1617 ?_
  refine g_lald (n := 1619) (j := 0) (f := f) hC hS2.1.1 hf rfl (by omega) (by omega) dL_law_1618 ?_
  refine g_iload (n := 1621) hC rfl dL_law_1619 ?_
  refine g_i2l (n := 1622) (v := vv.toInt64) hC rfl dL_law_1621 ?_
  refine g_lcmp_eq (n := 1626) (tgt := 1628) hC dL_law_1622 dL_law_1623 (fun _ => ?_) (fun q9 => absurd (hf0.trans eu) q9)
  refine g_goto (n := 1631) hC dL_law_1628 ?_
  exact G.le (hb (nI k) z2 (k9 + 1) (n9 + 7) L2 σ2 hI2 (by omega) (by omega)) ⟨rfl, rfl, rfl, rfl, rfl, rfl, trivial⟩

set_option maxRecDepth 20000 in
theorem LC_step {K : GK} {Γ : GX} {Po : GP} {mn : String} {b0 len : Nat} {xs : Nat → Int32} (hC : gC K Γ cL_law 9 RL mn 14 601024 7293034 (some .boolean) Po) (hZ9 : gCZ K Γ) (hS9 : gSc Γ b0 len xs) (hlen : len ≤ 2048) {i a z k9 n9 : Nat} {L : List Nat} {σ : GS} {th : Int32} (hi : i + 4 ≤ len) (hI : wI K a th z L σ) (hk : k9 ≤ 600 + i) (hn : n9 ≤ 30000 + 7 * i) (hb : ∀ (th9 : Int32) (z9 kk9 nn9 : Nat) (L9 : List Nat) (σ9 : GS), wI K a th9 z9 L9 σ9 → kk9 ≤ 604 + i → nn9 ≤ 30028 + 7 * i → G K Γ (z9, kk9, nn9, L9) σ9 1631 [some (.ref b0), some (.ref a), some (.ref (a + 506)), some (.ref (a + 524)), some (.ref (a + 525)), some (.int (nI i)), none, none, none] []) : G K Γ (z, k9, n9, L) σ 37 [some (.ref b0), some (.ref a), some (.ref (a + 506)), some (.ref (a + 524)), some (.ref (a + 525)), some (.int (nI i)), none, none, none] [] := by
  refine g_aload_n (n := 38) hC rfl dL_law_37 ?_
  refine g_iload (n := 40) hC rfl dL_law_38 ?_
  refine g_sld (n := 41) (j := i) hC hS9 rfl (by omega) (by omega) dL_law_40 ?_
  refine g_bipush (n := 43) (v := nI 31) hC (by decide) dL_law_41 ?_
  refine g_iand (n := 44) hC dL_law_43 ?_
  refine g_tsw (n := 1631) hC dL_law_44 (by decide) (fun j9 hj9 e9 tgt9 ht9 => ?_) (fun ho9 => hb th z k9 n9 L σ hI (by omega) (by omega))
  match j9, hj9 with
  | 0, _ =>
    obtain rfl : tgt9 = 164 := by revert ht9; show _ = (_ : Int) → _; intro ht9; exact (by have h8 := ht9; simp at h8; omega)
    exact LC_start hC hZ9 hS9 hlen hi hI hk hn hb
  | 1, _ =>
    obtain rfl : tgt9 = 244 := by revert ht9; show _ = (_ : Int) → _; intro ht9; exact (by have h8 := ht9; simp at h8; omega)
    exact LC_setRule hC hZ9 hS9 hlen hi hI hk hn hb
  | 2, _ =>
    obtain rfl : tgt9 = 300 := by revert ht9; show _ = (_ : Int) → _; intro ht9; exact (by have h8 := ht9; simp at h8; omega)
    exact LC_setBonus hC hZ9 hS9 hlen hi hI hk hn hb
  | 3, _ =>
    obtain rfl : tgt9 = 368 := by revert ht9; show _ = (_ : Int) → _; intro ht9; exact (by have h8 := ht9; simp at h8; omega)
    exact LC_play hC hZ9 hS9 hlen hi hI hk hn hb
  | 4, _ =>
    obtain rfl : tgt9 = 436 := by revert ht9; show _ = (_ : Int) → _; intro ht9; exact (by have h8 := ht9; simp at h8; omega)
    exact LC_undo hC hZ9 hS9 hlen hi hI hk hn hb
  | 5, _ =>
    obtain rfl : tgt9 = 480 := by revert ht9; show _ = (_ : Int) → _; intro ht9; exact (by have h8 := ht9; simp at h8; omega)
    exact LC_isOver hC hZ9 hS9 hlen hi hI hk hn hb
  | 6, _ =>
    obtain rfl : tgt9 = 493 := by revert ht9; show _ = (_ : Int) → _; intro ht9; exact (by have h8 := ht9; simp at h8; omega)
    exact LC_cell hC hZ9 hS9 hlen hi hI hk hn hb
  | 7, _ =>
    obtain rfl : tgt9 = 561 := by revert ht9; show _ = (_ : Int) → _; intro ht9; exact (by have h8 := ht9; simp at h8; omega)
    exact LC_since hC hZ9 hS9 hlen hi hI hk hn hb
  | 8, _ =>
    obtain rfl : tgt9 = 629 := by revert ht9; show _ = (_ : Int) → _; intro ht9; exact (by have h8 := ht9; simp at h8; omega)
    exact LC_count hC hZ9 hS9 hlen hi hI hk hn hb
  | 9, _ =>
    obtain rfl : tgt9 = 685 := by revert ht9; show _ = (_ : Int) → _; intro ht9; exact (by have h8 := ht9; simp at h8; omega)
    exact LC_player hC hZ9 hS9 hlen hi hI hk hn hb
  | 10, _ =>
    obtain rfl : tgt9 = 753 := by revert ht9; show _ = (_ : Int) → _; intro ht9; exact (by have h8 := ht9; simp at h8; omega)
    exact LC_region hC hZ9 hS9 hlen hi hI hk hn hb
  | 11, _ =>
    obtain rfl : tgt9 = 820 := by revert ht9; show _ = (_ : Int) → _; intro ht9; exact (by have h8 := ht9; simp at h8; omega)
    exact LC_cells hC hZ9 hS9 hlen hi hI hk hn hb
  | 12, _ =>
    obtain rfl : tgt9 = 875 := by revert ht9; show _ = (_ : Int) → _; intro ht9; exact (by have h8 := ht9; simp at h8; omega)
    exact LC_chain hC hZ9 hS9 hlen hi hI hk hn hb
  | 13, _ =>
    obtain rfl : tgt9 = 930 := by revert ht9; show _ = (_ : Int) → _; intro ht9; exact (by have h8 := ht9; simp at h8; omega)
    exact LC_stonesToEnclose hC hZ9 hS9 hlen hi hI hk hn hb
  | 14, _ =>
    obtain rfl : tgt9 = 998 := by revert ht9; show _ = (_ : Int) → _; intro ht9; exact (by have h8 := ht9; simp at h8; omega)
    exact LC_share hC hZ9 hS9 hlen hi hI hk hn hb
  | 15, _ =>
    obtain rfl : tgt9 = 1075 := by revert ht9; show _ = (_ : Int) → _; intro ht9; exact (by have h8 := ht9; simp at h8; omega)
    exact LC_round hC hZ9 hS9 hlen hi hI hk hn hb
  | 16, _ =>
    obtain rfl : tgt9 = 1143 := by revert ht9; show _ = (_ : Int) → _; intro ht9; exact (by have h8 := ht9; simp at h8; omega)
    exact LC_turningPoint hC hZ9 hS9 hlen hi hI hk hn hb
  | 17, _ =>
    obtain rfl : tgt9 = 1187 := by revert ht9; show _ = (_ : Int) → _; intro ht9; exact (by have h8 := ht9; simp at h8; omega)
    exact LC_guarantee hC hZ9 hS9 hlen hi hI hk hn hb
  | 18, _ =>
    obtain rfl : tgt9 = 1267 := by revert ht9; show _ = (_ : Int) → _; intro ht9; exact (by have h8 := ht9; simp at h8; omega)
    exact LC_best hC hZ9 hS9 hlen hi hI hk hn hb
  | 19, _ =>
    obtain rfl : tgt9 = 1335 := by revert ht9; show _ = (_ : Int) → _; intro ht9; exact (by have h8 := ht9; simp at h8; omega)
    exact LC_levels hC hZ9 hS9 hlen hi hI hk hn hb
  | 20, _ =>
    obtain rfl : tgt9 = 1348 := by revert ht9; show _ = (_ : Int) → _; intro ht9; exact (by have h8 := ht9; simp at h8; omega)
    exact LC_report hC hZ9 hS9 hlen hi hI hk hn hb
  | 21, _ =>
    obtain rfl : tgt9 = 1416 := by revert ht9; show _ = (_ : Int) → _; intro ht9; exact (by have h8 := ht9; simp at h8; omega)
    exact LC_feed hC hZ9 hS9 hlen hi hI hk hn hb
  | 22, _ =>
    obtain rfl : tgt9 = 1474 := by revert ht9; show _ = (_ : Int) → _; intro ht9; exact (by have h8 := ht9; simp at h8; omega)
    exact LC_readRecord hC hZ9 hS9 hlen hi hI hk hn hb
  | 23, _ =>
    obtain rfl : tgt9 = 1518 := by revert ht9; show _ = (_ : Int) → _; intro ht9; exact (by have h8 := ht9; simp at h8; omega)
    exact LC_written hC hZ9 hS9 hlen hi hI hk hn hb
  | 24, _ =>
    obtain rfl : tgt9 = 1574 := by revert ht9; show _ = (_ : Int) → _; intro ht9; exact (by have h8 := ht9; simp at h8; omega)
    exact LC_save hC hZ9 hS9 hlen hi hI hk hn hb
  | 25, _ =>
    obtain rfl : tgt9 = 1587 := by revert ht9; show _ = (_ : Int) → _; intro ht9; exact (by have h8 := ht9; simp at h8; omega)
    exact LC_restore hC hZ9 hS9 hlen hi hI hk hn hb
  | j + 26, hj => exact absurd hj (by show ¬ j + 26 < 26; omega)
set_option maxRecDepth 20000 in
/-- the loop: whatever comes of it, it comes to the end with 1 -/
theorem L_loop {K : GK} {Γ : GX} {Po : GP} {mn : String} {b0 len : Nat} {xs : Nat → Int32} (hC : gC K Γ cL_law 9 RL mn 14 601024 7293034 (some .boolean) Po) (hZ9 : gCZ K Γ) (hS9 : gSc Γ b0 len xs) (hlen : len ≤ 2048) (hEnd : ∀ (z9 kk9 nn9 : Nat) (L9 : List Nat) (σ9 : GS) (ll : List (Option Value)), kk9 ≤ 601024 → nn9 ≤ 7293034 → G K Γ (z9, kk9, nn9, L9) σ9 1638 ll [.int (nI 1)]) {a : Nat} : ∀ (fuel i z k9 n9 : Nat) (L : List Nat) (σ : GS) (th : Int32), len + 4 ≤ i + fuel → i ≤ len + 4 → wI K a th z L σ → k9 ≤ 600 + i → n9 ≤ 30000 + 7 * i → G K Γ (z, k9, n9, L) σ 28 [some (.ref b0), some (.ref a), some (.ref (a + 506)), some (.ref (a + 524)), some (.ref (a + 525)), some (.int (nI i)), none, none, none] [] := by
  intro fuel
  induction fuel with
  | zero => 
    intro i z k9 n9 L σ th hf hil hI hk hn
    have hend : G K Γ (z, k9, n9, L) σ 1637 [some (.ref b0), some (.ref a), some (.ref (a + 506)), some (.ref (a + 524)), some (.ref (a + 525)), some (.int (nI i)), none, none, none] [] := g_iconst (n := 1638) (v := nI 1) hC (by decide) dL_law_1637 (hEnd z k9 n9 L σ _ (by omega) (by omega))
    refine g_iload (n := 30) hC rfl dL_law_28 ?_
    refine g_aload_n (n := 31) hC rfl dL_law_30 ?_
    refine g_slen (n := 32) hC hS9 dL_law_31 ?_
    refine g_iconst (n := 33) (v := nI 4) hC (by decide) dL_law_32 ?_
    rcases Nat.lt_or_ge len 4 with q4 | q4
    · refine g_isub (n := 34) hC dL_law_33 ?_
      refine g_icmp_gt (n := 37) (tgt := 1637) hC dL_law_34 (fun _ => hend) (fun q => absurd ?_ q)
      exact lt4 q4 (by omega)
    · refine g_isubN (n := 34) hC (by omega) dL_law_33 ?_
      refine g_icmp_gtN (n := 37) (tgt := 1637) hC (by omega) (by omega) dL_law_34 (fun _ => hend) (fun q => ?_)
      exact absurd q (by omega)
  | succ fuel ih => 
    intro i z k9 n9 L σ th hf hil hI hk hn
    have hend : G K Γ (z, k9, n9, L) σ 1637 [some (.ref b0), some (.ref a), some (.ref (a + 506)), some (.ref (a + 524)), some (.ref (a + 525)), some (.int (nI i)), none, none, none] [] := g_iconst (n := 1638) (v := nI 1) hC (by decide) dL_law_1637 (hEnd z k9 n9 L σ _ (by omega) (by omega))
    refine g_iload (n := 30) hC rfl dL_law_28 ?_
    refine g_aload_n (n := 31) hC rfl dL_law_30 ?_
    refine g_slen (n := 32) hC hS9 dL_law_31 ?_
    refine g_iconst (n := 33) (v := nI 4) hC (by decide) dL_law_32 ?_
    rcases Nat.lt_or_ge len 4 with q4 | q4
    · refine g_isub (n := 34) hC dL_law_33 ?_
      refine g_icmp_gt (n := 37) (tgt := 1637) hC dL_law_34 (fun _ => hend) (fun q => absurd ?_ q)
      exact lt4 q4 (by omega)
    · refine g_isubN (n := 34) hC (by omega) dL_law_33 ?_
      refine g_icmp_gtN (n := 37) (tgt := 1637) hC (by omega) (by omega) dL_law_34 (fun _ => hend) (fun q => ?_)
      refine LC_step hC hZ9 hS9 hlen (by omega) hI hk hn (fun th9 z9 kk9 nn9 L9 σ9 hI9 h1 h2 => ?_)
      refine g_iinc (n := 1634) (v := nI (i + 4)) (ll1 := [some (.ref b0), some (.ref a), some (.ref (a + 506)), some (.ref (a + 524)), some (.ref (a + 525)), some (.int (nI (i + 4))), none, none, none]) hC dL_law_1631 rfl (nI_inc4 i) rfl ?_
      refine g_goto (n := 28) hC dL_law_1634 ?_
      exact ih (i + 4) z9 kk9 nn9 L9 σ9 th9 (by omega) (by omega) hI9 (by omega) (by omega)