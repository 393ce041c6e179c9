def gTs : List Cond := lw_tbl.filter goodWord
theorem gmem {i : Nat} {w : Cond} (h : lw_tbl[i]? = some w) (hg : goodWord w = true) : w ∈ gTs := List.mem_filter.mpr ⟨List.mem_of_getElem? h, hg⟩
theorem gGood {ws : List Cond} {c : Cond} (hc : c ∈ gTs) (hw : ws = c :: gTs) : GoodIn gTs ws := by
  intro w h
  rw [hw] at h
  rcases List.mem_cons.mp h with rfl | h
  · exact ⟨hc, good_of_word (List.mem_filter.mp hc).2⟩
  · exact ⟨h, good_of_word (List.mem_filter.mp h).2⟩
def gYd (y : MethodName) (n : Nat) : Prop := y.cls ≠ "java/lang/invoke/MethodHandle" ∧ y.cls ≠ "java/lang/invoke/VarHandle" ∧ (parseMethodDescriptor y.desc).map (fun d => d.parameters.length) = some n
theorem tp_1 : Cond.selects RX2 yX2_handicapCell yX2_handicapCell ∈ gTs := gmem (i := 1) (by decide +kernel) (by decide +kernel)
theorem tp_2 : Cond.selects RX7 yX7_isChoice yX7_isChoice ∈ gTs := gmem (i := 2) (by decide +kernel) (by decide +kernel)
theorem tp_3 : Cond.selects RX7 yX7_admits yX7_admits ∈ gTs := gmem (i := 3) (by decide +kernel) (by decide +kernel)
theorem tp_4 : Cond.selects RX5 yX5_add yX5_add ∈ gTs := gmem (i := 4) (by decide +kernel) (by decide +kernel)
theorem tp_5 : Cond.selects RX7 yX7_canLookAhead yX7_canLookAhead ∈ gTs := gmem (i := 5) (by decide +kernel) (by decide +kernel)
theorem tp_6 : Cond.selects RX1 yX1_leastValue yX1_leastValue ∈ gTs := gmem (i := 6) (by decide +kernel) (by decide +kernel)
theorem tp_7 : Cond.selects RX1 yX1_greatestValue yX1_greatestValue ∈ gTs := gmem (i := 7) (by decide +kernel) (by decide +kernel)
theorem tp_8 : Cond.selects RX3 yX3_addChoice yX3_addChoice ∈ gTs := gmem (i := 8) (by decide +kernel) (by decide +kernel)
theorem tp_9 : Cond.selects RX8 yX8_begins yX8_begins ∈ gTs := gmem (i := 9) (by decide +kernel) (by decide +kernel)
theorem tp_10 : Cond.selects RX8 yX8_many yX8_many ∈ gTs := gmem (i := 10) (by decide +kernel) (by decide +kernel)
theorem tp_11 : Cond.selects RX8 yX8_cells yX8_cells ∈ gTs := gmem (i := 11) (by decide +kernel) (by decide +kernel)
theorem tp_12 : Cond.selects RX8 yX8_isChoice yX8_isChoice ∈ gTs := gmem (i := 12) (by decide +kernel) (by decide +kernel)
theorem tp_13 : Cond.selects RX8 yX8_isCell yX8_isCell ∈ gTs := gmem (i := 13) (by decide +kernel) (by decide +kernel)
theorem tp_14 : Cond.selects RX8 yX8_over yX8_over ∈ gTs := gmem (i := 14) (by decide +kernel) (by decide +kernel)
theorem tp_15 : Cond.selects RX8 yX8_emptyCells yX8_emptyCells ∈ gTs := gmem (i := 15) (by decide +kernel) (by decide +kernel)
theorem tp_16 : Cond.selects RX8 yX8_goes yX8_goes ∈ gTs := gmem (i := 16) (by decide +kernel) (by decide +kernel)
theorem tp_17 : Cond.selects RX8 yX8_mayChoose yX8_mayChoose ∈ gTs := gmem (i := 17) (by decide +kernel) (by decide +kernel)
theorem tp_18 : Cond.selects RX8 yX8_reports yX8_reports ∈ gTs := gmem (i := 18) (by decide +kernel) (by decide +kernel)
theorem tp_19 : Cond.selects RX8 yX8_plays yX8_plays ∈ gTs := gmem (i := 19) (by decide +kernel) (by decide +kernel)
theorem tp_20 : Cond.selects RX8 yX8_score yX8_score ∈ gTs := gmem (i := 20) (by decide +kernel) (by decide +kernel)
theorem tp_21 : Cond.selects RX8 yX8_becomes yX8_becomes ∈ gTs := gmem (i := 21) (by decide +kernel) (by decide +kernel)
theorem tp_22 : Cond.selects RX8 yX8_wave yX8_wave ∈ gTs := gmem (i := 22) (by decide +kernel) (by decide +kernel)
theorem tp_23 : Cond.selects RX8 yX8_encloses yX8_encloses ∈ gTs := gmem (i := 23) (by decide +kernel) (by decide +kernel)
theorem tp_24 : Cond.selects RX8 yX8_outside yX8_outside ∈ gTs := gmem (i := 24) (by decide +kernel) (by decide +kernel)
theorem tp_25 : Cond.selects RX8 yX8_all yX8_all ∈ gTs := gmem (i := 25) (by decide +kernel) (by decide +kernel)
theorem tp_26 : Cond.selects RX8 yX8_bits yX8_bits ∈ gTs := gmem (i := 26) (by decide +kernel) (by decide +kernel)
theorem tp_27 : Cond.selects RX8 yX8_edge yX8_edge ∈ gTs := gmem (i := 27) (by decide +kernel) (by decide +kernel)
theorem tp_28 : Cond.selects RX8 yX8_column yX8_column ∈ gTs := gmem (i := 28) (by decide +kernel) (by decide +kernel)
theorem tp_29 : Cond.selects RX8 yX8_connected yX8_connected ∈ gTs := gmem (i := 29) (by decide +kernel) (by decide +kernel)
theorem tp_30 : Cond.selects RX8 yX8_grown yX8_grown ∈ gTs := gmem (i := 30) (by decide +kernel) (by decide +kernel)
theorem tp_31 : Cond.selects RX8 yX8_no yX8_no ∈ gTs := gmem (i := 31) (by decide +kernel) (by decide +kernel)
theorem tp_32 : Cond.selects RX8 yX8_regions yX8_regions ∈ gTs := gmem (i := 32) (by decide +kernel) (by decide +kernel)
theorem tp_33 : Cond.selects RX8 yX8_isOutside yX8_isOutside ∈ gTs := gmem (i := 33) (by decide +kernel) (by decide +kernel)
theorem tp_34 : Cond.selects RX8 yX8_isEnclosed yX8_isEnclosed ∈ gTs := gmem (i := 34) (by decide +kernel) (by decide +kernel)
theorem tp_35 : Cond.selects RX8 yX8_guaranteed yX8_guaranteed ∈ gTs := gmem (i := 35) (by decide +kernel) (by decide +kernel)
theorem tp_36 : Cond.selects RX8 yX8_near yX8_near ∈ gTs := gmem (i := 36) (by decide +kernel) (by decide +kernel)
theorem tp_37 : Cond.selects RX8 yX8_makes yX8_makes ∈ gTs := gmem (i := 37) (by decide +kernel) (by decide +kernel)
theorem tp_38 : Cond.selects RX8 yX8_outcome yX8_outcome ∈ gTs := gmem (i := 38) (by decide +kernel) (by decide +kernel)
theorem tp_39 : Cond.selects RX8 yX8_far yX8_far ∈ gTs := gmem (i := 39) (by decide +kernel) (by decide +kernel)
theorem tp_40 : Cond.selects RX8 yX8_bestNear yX8_bestNear ∈ gTs := gmem (i := 40) (by decide +kernel) (by decide +kernel)
theorem tp_41 : Cond.selects RX8 yX8_isRound yX8_isRound ∈ gTs := gmem (i := 41) (by decide +kernel) (by decide +kernel)
theorem tp_42 : Cond.selects RX8 yX8_choice yX8_choice ∈ gTs := gmem (i := 42) (by decide +kernel) (by decide +kernel)
theorem tp_43 : Cond.selects RX8 yX8_isHere yX8_isHere ∈ gTs := gmem (i := 43) (by decide +kernel) (by decide +kernel)
theorem tp_44 : Cond.selects RX8 yX8_signOf yX8_signOf ∈ gTs := gmem (i := 44) (by decide +kernel) (by decide +kernel)
theorem tin_X0 : ∀ w ∈ u_ws RX0 TX0 7, w ∈ gTs := by
  intro w hw
  obtain ⟨k, hk, rfl⟩ := List.mem_map.mp hw
  have hk := List.mem_range.mp hk
  match k, hk with
  | 0, _ => exact gmem (i := 105) (by decide +kernel) (by decide +kernel)
  | 1, _ => exact gmem (i := 107) (by decide +kernel) (by decide +kernel)
  | 2, _ => exact gmem (i := 109) (by decide +kernel) (by decide +kernel)
  | 3, _ => exact gmem (i := 111) (by decide +kernel) (by decide +kernel)
  | 4, _ => exact gmem (i := 113) (by decide +kernel) (by decide +kernel)
  | 5, _ => exact gmem (i := 115) (by decide +kernel) (by decide +kernel)
  | 6, _ => exact gmem (i := 117) (by decide +kernel) (by decide +kernel)
  | k + 7, hk => exact absurd hk (by omega)
theorem tin_X1 : ∀ w ∈ u_ws RX1 TX1 2, w ∈ gTs := by
  intro w hw
  obtain ⟨k, hk, rfl⟩ := List.mem_map.mp hw
  have hk := List.mem_range.mp hk
  match k, hk with
  | 0, _ => exact gmem (i := 260) (by decide +kernel) (by decide +kernel)
  | 1, _ => exact gmem (i := 262) (by decide +kernel) (by decide +kernel)
  | k + 2, hk => exact absurd hk (by omega)
theorem tin_X2 : ∀ w ∈ u_ws RX2 TX2 7, w ∈ gTs := by
  intro w hw
  obtain ⟨k, hk, rfl⟩ := List.mem_map.mp hw
  have hk := List.mem_range.mp hk
  match k, hk with
  | 0, _ => exact gmem (i := 193) (by decide +kernel) (by decide +kernel)
  | 1, _ => exact gmem (i := 195) (by decide +kernel) (by decide +kernel)
  | 2, _ => exact gmem (i := 197) (by decide +kernel) (by decide +kernel)
  | 3, _ => exact gmem (i := 199) (by decide +kernel) (by decide +kernel)
  | 4, _ => exact gmem (i := 201) (by decide +kernel) (by decide +kernel)
  | 5, _ => exact gmem (i := 203) (by decide +kernel) (by decide +kernel)
  | 6, _ => exact gmem (i := 205) (by decide +kernel) (by decide +kernel)
  | k + 7, hk => exact absurd hk (by omega)
theorem tin_X3 : ∀ w ∈ u_ws RX3 TX3 4, w ∈ gTs := by
  intro w hw
  obtain ⟨k, hk, rfl⟩ := List.mem_map.mp hw
  have hk := List.mem_range.mp hk
  match k, hk with
  | 0, _ => exact gmem (i := 240) (by decide +kernel) (by decide +kernel)
  | 1, _ => exact gmem (i := 242) (by decide +kernel) (by decide +kernel)
  | 2, _ => exact gmem (i := 244) (by decide +kernel) (by decide +kernel)
  | 3, _ => exact gmem (i := 246) (by decide +kernel) (by decide +kernel)
  | k + 4, hk => exact absurd hk (by omega)
theorem tin_X4 : ∀ w ∈ u_ws RX4 TX4 3, w ∈ gTs := by
  intro w hw
  obtain ⟨k, hk, rfl⟩ := List.mem_map.mp hw
  have hk := List.mem_range.mp hk
  match k, hk with
  | 0, _ => exact gmem (i := 131) (by decide +kernel) (by decide +kernel)
  | 1, _ => exact gmem (i := 133) (by decide +kernel) (by decide +kernel)
  | 2, _ => exact gmem (i := 135) (by decide +kernel) (by decide +kernel)
  | k + 3, hk => exact absurd hk (by omega)
theorem tin_X5 : ∀ w ∈ u_ws RX5 TX5 3, w ∈ gTs := by
  intro w hw
  obtain ⟨k, hk, rfl⟩ := List.mem_map.mp hw
  have hk := List.mem_range.mp hk
  match k, hk with
  | 0, _ => exact gmem (i := 220) (by decide +kernel) (by decide +kernel)
  | 1, _ => exact gmem (i := 222) (by decide +kernel) (by decide +kernel)
  | 2, _ => exact gmem (i := 224) (by decide +kernel) (by decide +kernel)
  | k + 3, hk => exact absurd hk (by omega)
theorem tin_X6 : ∀ w ∈ u_ws RX6 TX6 7, w ∈ gTs := by
  intro w hw
  obtain ⟨k, hk, rfl⟩ := List.mem_map.mp hw
  have hk := List.mem_range.mp hk
  match k, hk with
  | 0, _ => exact gmem (i := 159) (by decide +kernel) (by decide +kernel)
  | 1, _ => exact gmem (i := 161) (by decide +kernel) (by decide +kernel)
  | 2, _ => exact gmem (i := 163) (by decide +kernel) (by decide +kernel)
  | 3, _ => exact gmem (i := 165) (by decide +kernel) (by decide +kernel)
  | 4, _ => exact gmem (i := 167) (by decide +kernel) (by decide +kernel)
  | 5, _ => exact gmem (i := 169) (by decide +kernel) (by decide +kernel)
  | 6, _ => exact gmem (i := 171) (by decide +kernel) (by decide +kernel)
  | k + 7, hk => exact absurd hk (by omega)
theorem tin_X7 : ∀ w ∈ u_ws RX7 TX7 6, w ∈ gTs := by
  intro w hw
  obtain ⟨k, hk, rfl⟩ := List.mem_map.mp hw
  have hk := List.mem_range.mp hk
  match k, hk with
  | 0, _ => exact gmem (i := 271) (by decide +kernel) (by decide +kernel)
  | 1, _ => exact gmem (i := 273) (by decide +kernel) (by decide +kernel)
  | 2, _ => exact gmem (i := 275) (by decide +kernel) (by decide +kernel)
  | 3, _ => exact gmem (i := 277) (by decide +kernel) (by decide +kernel)
  | 4, _ => exact gmem (i := 279) (by decide +kernel) (by decide +kernel)
  | 5, _ => exact gmem (i := 281) (by decide +kernel) (by decide +kernel)
  | k + 6, hk => exact absurd hk (by omega)
theorem tin_X8 : ∀ w ∈ u_ws RX8 TX8 33, w ∈ gTs := by
  intro w hw
  obtain ⟨k, hk, rfl⟩ := List.mem_map.mp hw
  have hk := List.mem_range.mp hk
  match k, hk with
  | 0, _ => exact gmem (i := 989) (by decide +kernel) (by decide +kernel)
  | 1, _ => exact gmem (i := 991) (by decide +kernel) (by decide +kernel)
  | 2, _ => exact gmem (i := 993) (by decide +kernel) (by decide +kernel)
  | 3, _ => exact gmem (i := 995) (by decide +kernel) (by decide +kernel)
  | 4, _ => exact gmem (i := 997) (by decide +kernel) (by decide +kernel)
  | 5, _ => exact gmem (i := 999) (by decide +kernel) (by decide +kernel)
  | 6, _ => exact gmem (i := 1001) (by decide +kernel) (by decide +kernel)
  | 7, _ => exact gmem (i := 1003) (by decide +kernel) (by decide +kernel)
  | 8, _ => exact gmem (i := 1005) (by decide +kernel) (by decide +kernel)
  | 9, _ => exact gmem (i := 1007) (by decide +kernel) (by decide +kernel)
  | 10, _ => exact gmem (i := 1009) (by decide +kernel) (by decide +kernel)
  | 11, _ => exact gmem (i := 1011) (by decide +kernel) (by decide +kernel)
  | 12, _ => exact gmem (i := 1013) (by decide +kernel) (by decide +kernel)
  | 13, _ => exact gmem (i := 1015) (by decide +kernel) (by decide +kernel)
  | 14, _ => exact gmem (i := 1017) (by decide +kernel) (by decide +kernel)
  | 15, _ => exact gmem (i := 1019) (by decide +kernel) (by decide +kernel)
  | 16, _ => exact gmem (i := 1021) (by decide +kernel) (by decide +kernel)
  | 17, _ => exact gmem (i := 1023) (by decide +kernel) (by decide +kernel)
  | 18, _ => exact gmem (i := 1025) (by decide +kernel) (by decide +kernel)
  | 19, _ => exact gmem (i := 1027) (by decide +kernel) (by decide +kernel)
  | 20, _ => exact gmem (i := 1029) (by decide +kernel) (by decide +kernel)
  | 21, _ => exact gmem (i := 1031) (by decide +kernel) (by decide +kernel)
  | 22, _ => exact gmem (i := 1033) (by decide +kernel) (by decide +kernel)
  | 23, _ => exact gmem (i := 1035) (by decide +kernel) (by decide +kernel)
  | 24, _ => exact gmem (i := 1037) (by decide +kernel) (by decide +kernel)
  | 25, _ => exact gmem (i := 1039) (by decide +kernel) (by decide +kernel)
  | 26, _ => exact gmem (i := 1041) (by decide +kernel) (by decide +kernel)
  | 27, _ => exact gmem (i := 1043) (by decide +kernel) (by decide +kernel)
  | 28, _ => exact gmem (i := 1045) (by decide +kernel) (by decide +kernel)
  | 29, _ => exact gmem (i := 1047) (by decide +kernel) (by decide +kernel)
  | 30, _ => exact gmem (i := 1049) (by decide +kernel) (by decide +kernel)
  | 31, _ => exact gmem (i := 1051) (by decide +kernel) (by decide +kernel)
  | 32, _ => exact gmem (i := 1053) (by decide +kernel) (by decide +kernel)
  | k + 33, hk => exact absurd hk (by omega)
theorem tw_23 : Cond.methodLink RL 97 yX7_init ∈ gTs := gmem (i := 68) (by decide +kernel) (by decide +kernel)
theorem tw_25 : Cond.code yX7_init cX7_init 1 none ∈ gTs := gmem (i := 70) (by decide +kernel) (by decide +kernel)
theorem td_yX7_init : gYd yX7_init 0 := by refine ⟨?_, ?_, ?_⟩ <;> decide +kernel
theorem tw_24 : Cond.instanceMethod yX7_init ∈ gTs := gmem (i := 69) (by decide +kernel) (by decide +kernel)
theorem tw_26 : Cond.methodLink RX7 1 objectInit ∈ gTs := gmem (i := 71) (by decide +kernel) (by decide +kernel)
theorem tw_28 : Cond.code objectInit object_method_1_code 1 none ∈ gTs := gmem (i := 73) (by decide +kernel) (by decide +kernel)
theorem tw_31 : Cond.methodLink RX7 9 yX2_init ∈ gTs := gmem (i := 76) (by decide +kernel) (by decide +kernel)
theorem tw_33 : Cond.code yX2_init cX2_init 2 none ∈ gTs := gmem (i := 78) (by decide +kernel) (by decide +kernel)
theorem td_yX2_init : gYd yX2_init 0 := by refine ⟨?_, ?_, ?_⟩ <;> decide +kernel
theorem tw_32 : Cond.instanceMethod yX2_init ∈ gTs := gmem (i := 77) (by decide +kernel) (by decide +kernel)
theorem tw_34 : Cond.methodLink RX2 3 objectInit ∈ gTs := gmem (i := 79) (by decide +kernel) (by decide +kernel)
theorem tw_37 : Cond.methodLink RX2 11 yX0_init ∈ gTs := gmem (i := 82) (by decide +kernel) (by decide +kernel)
theorem tw_39 : Cond.code yX0_init cX0_init 7 none ∈ gTs := gmem (i := 84) (by decide +kernel) (by decide +kernel)
theorem td_yX0_init : gYd yX0_init 2 := by refine ⟨?_, ?_, ?_⟩ <;> decide +kernel
theorem tw_38 : Cond.instanceMethod yX0_init ∈ gTs := gmem (i := 83) (by decide +kernel) (by decide +kernel)
theorem tw_40 : Cond.methodLink RX0 1 objectInit ∈ gTs := gmem (i := 85) (by decide +kernel) (by decide +kernel)
theorem tw_81 : Cond.code yX4_init cX4_init 1 none ∈ gTs := gmem (i := 126) (by decide +kernel) (by decide +kernel)
theorem tw_80 : Cond.instanceMethod yX4_init ∈ gTs := gmem (i := 125) (by decide +kernel) (by decide +kernel)
theorem td_yX4_init : gYd yX4_init 0 := by refine ⟨?_, ?_, ?_⟩ <;> decide +kernel
theorem tw_82 : Cond.methodLink RX4 3 objectInit ∈ gTs := gmem (i := 127) (by decide +kernel) (by decide +kernel)
theorem tw_97 : Cond.code yX6_init cX6_init 1 none ∈ gTs := gmem (i := 142) (by decide +kernel) (by decide +kernel)
theorem tw_96 : Cond.instanceMethod yX6_init ∈ gTs := gmem (i := 141) (by decide +kernel) (by decide +kernel)
theorem td_yX6_init : gYd yX6_init 0 := by refine ⟨?_, ?_, ?_⟩ <;> decide +kernel
theorem tw_98 : Cond.methodLink RX6 3 objectInit ∈ gTs := gmem (i := 143) (by decide +kernel) (by decide +kernel)
theorem tw_129 : Cond.methodLink RX2 42 yX4_clear ∈ gTs := gmem (i := 174) (by decide +kernel) (by decide +kernel)
theorem tw_132 : Cond.code yX4_clear cX4_clear 4 none ∈ gTs := gmem (i := 177) (by decide +kernel) (by decide +kernel)
theorem td_yX4_clear : gYd yX4_clear 1 := by refine ⟨?_, ?_, ?_⟩ <;> decide +kernel
theorem tw_130 : Cond.instanceMethod yX4_clear ∈ gTs := gmem (i := 175) (by decide +kernel) (by decide +kernel)
theorem tw_131 : Cond.selects RX4 yX4_clear yX4_clear ∈ gTs := gmem (i := 176) (by decide +kernel) (by decide +kernel)
theorem tw_167 : Cond.code yX5_init cX5_init 1 none ∈ gTs := gmem (i := 212) (by decide +kernel) (by decide +kernel)
theorem tw_166 : Cond.instanceMethod yX5_init ∈ gTs := gmem (i := 211) (by decide +kernel) (by decide +kernel)
theorem td_yX5_init : gYd yX5_init 0 := by refine ⟨?_, ?_, ?_⟩ <;> decide +kernel
theorem tw_168 : Cond.methodLink RX5 3 objectInit ∈ gTs := gmem (i := 213) (by decide +kernel) (by decide +kernel)
theorem tw_187 : Cond.code yX3_init cX3_init 1 none ∈ gTs := gmem (i := 232) (by decide +kernel) (by decide +kernel)
theorem tw_186 : Cond.instanceMethod yX3_init ∈ gTs := gmem (i := 231) (by decide +kernel) (by decide +kernel)
theorem td_yX3_init : gYd yX3_init 0 := by refine ⟨?_, ?_, ?_⟩ <;> decide +kernel
theorem tw_188 : Cond.methodLink RX3 3 objectInit ∈ gTs := gmem (i := 233) (by decide +kernel) (by decide +kernel)
theorem tw_209 : Cond.code yX1_init cX1_init 1 none ∈ gTs := gmem (i := 254) (by decide +kernel) (by decide +kernel)
theorem tw_208 : Cond.instanceMethod yX1_init ∈ gTs := gmem (i := 253) (by decide +kernel) (by decide +kernel)
theorem td_yX1_init : gYd yX1_init 0 := by refine ⟨?_, ?_, ?_⟩ <;> decide +kernel
theorem tw_210 : Cond.methodLink RX1 3 objectInit ∈ gTs := gmem (i := 255) (by decide +kernel) (by decide +kernel)
theorem tw_239 : Cond.methodLink RL 125 yX7_isOver ∈ gTs := gmem (i := 284) (by decide +kernel) (by decide +kernel)
theorem tw_242 : Cond.code yX7_isOver cX7_isOver 1 (some .boolean) ∈ gTs := gmem (i := 287) (by decide +kernel) (by decide +kernel)
theorem td_yX7_isOver : gYd yX7_isOver 0 := by refine ⟨?_, ?_, ?_⟩ <;> decide +kernel
theorem tw_240 : Cond.instanceMethod yX7_isOver ∈ gTs := gmem (i := 285) (by decide +kernel) (by decide +kernel)
theorem tw_241 : Cond.selects RX7 yX7_isOver yX7_isOver ∈ gTs := gmem (i := 286) (by decide +kernel) (by decide +kernel)
theorem tw_243 : Cond.methodLink RX7 96 yX2_hasEnded ∈ gTs := gmem (i := 288) (by decide +kernel) (by decide +kernel)
theorem tw_246 : Cond.code yX2_hasEnded cX2_hasEnded 1 (some .boolean) ∈ gTs := gmem (i := 291) (by decide +kernel) (by decide +kernel)
theorem td_yX2_hasEnded : gYd yX2_hasEnded 0 := by refine ⟨?_, ?_, ?_⟩ <;> decide +kernel
theorem tw_244 : Cond.instanceMethod yX2_hasEnded ∈ gTs := gmem (i := 289) (by decide +kernel) (by decide +kernel)
theorem tw_245 : Cond.selects RX2 yX2_hasEnded yX2_hasEnded ∈ gTs := gmem (i := 290) (by decide +kernel) (by decide +kernel)
theorem tw_247 : Cond.methodLink RX2 83 yX6_ends ∈ gTs := gmem (i := 292) (by decide +kernel) (by decide +kernel)
theorem tw_250 : Cond.code yX6_ends cX6_ends 3 (some .boolean) ∈ gTs := gmem (i := 295) (by decide +kernel) (by decide +kernel)
theorem td_yX6_ends : gYd yX6_ends 1 := by refine ⟨?_, ?_, ?_⟩ <;> decide +kernel
theorem tw_248 : Cond.instanceMethod yX6_ends ∈ gTs := gmem (i := 293) (by decide +kernel) (by decide +kernel)
theorem tw_249 : Cond.selects RX6 yX6_ends yX6_ends ∈ gTs := gmem (i := 294) (by decide +kernel) (by decide +kernel)
theorem tw_251 : Cond.methodLink RX6 57 yX4_in ∈ gTs := gmem (i := 296) (by decide +kernel) (by decide +kernel)
theorem tw_254 : Cond.code yX4_in cX4_in 2 (some .long) ∈ gTs := gmem (i := 299) (by decide +kernel) (by decide +kernel)
theorem td_yX4_in : gYd yX4_in 1 := by refine ⟨?_, ?_, ?_⟩ <;> decide +kernel
theorem tw_252 : Cond.instanceMethod yX4_in ∈ gTs := gmem (i := 297) (by decide +kernel) (by decide +kernel)
theorem tw_253 : Cond.selects RX4 yX4_in yX4_in ∈ gTs := gmem (i := 298) (by decide +kernel) (by decide +kernel)
theorem tw_255 : Cond.methodLink RL 170 yX7_levels ∈ gTs := gmem (i := 300) (by decide +kernel) (by decide +kernel)
theorem tw_258 : Cond.code yX7_levels cX7_levels 1 (some .int) ∈ gTs := gmem (i := 303) (by decide +kernel) (by decide +kernel)
theorem td_yX7_levels : gYd yX7_levels 0 := by refine ⟨?_, ?_, ?_⟩ <;> decide +kernel
theorem tw_256 : Cond.instanceMethod yX7_levels ∈ gTs := gmem (i := 301) (by decide +kernel) (by decide +kernel)
theorem tw_257 : Cond.selects RX7 yX7_levels yX7_levels ∈ gTs := gmem (i := 302) (by decide +kernel) (by decide +kernel)
theorem tw_259 : Cond.methodLink RL 187 yX7_save ∈ gTs := gmem (i := 304) (by decide +kernel) (by decide +kernel)
theorem tw_262 : Cond.code yX7_save cX7_save 1 (some .int) ∈ gTs := gmem (i := 307) (by decide +kernel) (by decide +kernel)
theorem td_yX7_save : gYd yX7_save 0 := by refine ⟨?_, ?_, ?_⟩ <;> decide +kernel
theorem tw_260 : Cond.instanceMethod yX7_save ∈ gTs := gmem (i := 305) (by decide +kernel) (by decide +kernel)
theorem tw_261 : Cond.selects RX7 yX7_save yX7_save ∈ gTs := gmem (i := 306) (by decide +kernel) (by decide +kernel)
theorem tw_263 : Cond.methodLink RX7 302 yX2_copyFrom ∈ gTs := gmem (i := 308) (by decide +kernel) (by decide +kernel)
theorem tw_266 : Cond.code yX2_copyFrom cX2_copyFrom 3 none ∈ gTs := gmem (i := 311) (by decide +kernel) (by decide +kernel)
theorem td_yX2_copyFrom : gYd yX2_copyFrom 1 := by refine ⟨?_, ?_, ?_⟩ <;> decide +kernel
theorem tw_264 : Cond.instanceMethod yX2_copyFrom ∈ gTs := gmem (i := 309) (by decide +kernel) (by decide +kernel)
theorem tw_265 : Cond.selects RX2 yX2_copyFrom yX2_copyFrom ∈ gTs := gmem (i := 310) (by decide +kernel) (by decide +kernel)
theorem tw_267 : Cond.methodLink RX2 73 yX4_copyFrom ∈ gTs := gmem (i := 312) (by decide +kernel) (by decide +kernel)
theorem tw_270 : Cond.code yX4_copyFrom cX4_copyFrom 2 none ∈ gTs := gmem (i := 315) (by decide +kernel) (by decide +kernel)
theorem td_yX4_copyFrom : gYd yX4_copyFrom 1 := by refine ⟨?_, ?_, ?_⟩ <;> decide +kernel
theorem tw_268 : Cond.instanceMethod yX4_copyFrom ∈ gTs := gmem (i := 313) (by decide +kernel) (by decide +kernel)
theorem tw_269 : Cond.selects RX4 yX4_copyFrom yX4_copyFrom ∈ gTs := gmem (i := 314) (by decide +kernel) (by decide +kernel)
theorem tw_274 : Cond.methodLink RX2 77 yX6_copyFrom ∈ gTs := gmem (i := 319) (by decide +kernel) (by decide +kernel)
theorem tw_277 : Cond.code yX6_copyFrom cX6_copyFrom 2 none ∈ gTs := gmem (i := 322) (by decide +kernel) (by decide +kernel)
theorem td_yX6_copyFrom : gYd yX6_copyFrom 1 := by refine ⟨?_, ?_, ?_⟩ <;> decide +kernel
theorem tw_275 : Cond.instanceMethod yX6_copyFrom ∈ gTs := gmem (i := 320) (by decide +kernel) (by decide +kernel)
theorem tw_276 : Cond.selects RX6 yX6_copyFrom yX6_copyFrom ∈ gTs := gmem (i := 321) (by decide +kernel) (by decide +kernel)
theorem tw_279 : Cond.methodLink RX6 45 yX4_copyFrom ∈ gTs := gmem (i := 324) (by decide +kernel) (by decide +kernel)
theorem tw_284 : Cond.methodLink RL 7 yX7_start ∈ gTs := gmem (i := 329) (by decide +kernel) (by decide +kernel)
theorem tw_287 : Cond.code yX7_start cX7_start 4 (some .int) ∈ gTs := gmem (i := 332) (by decide +kernel) (by decide +kernel)
theorem td_yX7_start : gYd yX7_start 3 := by refine ⟨?_, ?_, ?_⟩ <;> decide +kernel
theorem tw_285 : Cond.instanceMethod yX7_start ∈ gTs := gmem (i := 330) (by decide +kernel) (by decide +kernel)
theorem tw_286 : Cond.selects RX7 yX7_start yX7_start ∈ gTs := gmem (i := 331) (by decide +kernel) (by decide +kernel)
theorem tw_359 : Cond.methodLink RX7 53 yX2_begin ∈ gTs := gmem (i := 404) (by decide +kernel) (by decide +kernel)
theorem tw_362 : Cond.code yX2_begin cX2_begin 5 none ∈ gTs := gmem (i := 407) (by decide +kernel) (by decide +kernel)
theorem td_yX2_begin : gYd yX2_begin 3 := by refine ⟨?_, ?_, ?_⟩ <;> decide +kernel
theorem tw_360 : Cond.instanceMethod yX2_begin ∈ gTs := gmem (i := 405) (by decide +kernel) (by decide +kernel)
theorem tw_361 : Cond.selects RX2 yX2_begin yX2_begin ∈ gTs := gmem (i := 406) (by decide +kernel) (by decide +kernel)
theorem tw_363 : Cond.methodLink RX2 52 yX2_handicapCell ∈ gTs := gmem (i := 408) (by decide +kernel) (by decide +kernel)
theorem tw_366 : Cond.code yX2_handicapCell cX2_handicapCell 4 (some .int) ∈ gTs := gmem (i := 411) (by decide +kernel) (by decide +kernel)
theorem td_yX2_handicapCell : gYd yX2_handicapCell 1 := by refine ⟨?_, ?_, ?_⟩ <;> decide +kernel
theorem tw_365 : Cond.instanceMethod yX2_handicapCell ∈ gTs := gmem (i := 410) (by decide +kernel) (by decide +kernel)
theorem tw_367 : Cond.methodLink RX2 69 yX0_cellAt ∈ gTs := gmem (i := 412) (by decide +kernel) (by decide +kernel)
theorem tw_370 : Cond.code yX0_cellAt cX0_cellAt 3 (some .int) ∈ gTs := gmem (i := 415) (by decide +kernel) (by decide +kernel)
theorem td_yX0_cellAt : gYd yX0_cellAt 2 := by refine ⟨?_, ?_, ?_⟩ <;> decide +kernel
theorem tw_368 : Cond.instanceMethod yX0_cellAt ∈ gTs := gmem (i := 413) (by decide +kernel) (by decide +kernel)
theorem tw_369 : Cond.selects RX0 yX0_cellAt yX0_cellAt ∈ gTs := gmem (i := 414) (by decide +kernel) (by decide +kernel)
theorem tw_371 : Cond.methodLink RX2 56 yX4_give ∈ gTs := gmem (i := 416) (by decide +kernel) (by decide +kernel)
theorem tw_374 : Cond.code yX4_give cX4_give 5 (some .long) ∈ gTs := gmem (i := 419) (by decide +kernel) (by decide +kernel)
theorem td_yX4_give : gYd yX4_give 2 := by refine ⟨?_, ?_, ?_⟩ <;> decide +kernel
theorem tw_372 : Cond.instanceMethod yX4_give ∈ gTs := gmem (i := 417) (by decide +kernel) (by decide +kernel)
theorem tw_373 : Cond.selects RX4 yX4_give yX4_give ∈ gTs := gmem (i := 418) (by decide +kernel) (by decide +kernel)
theorem tw_375 : Cond.methodLink RX4 73 yX4_turn ∈ gTs := gmem (i := 420) (by decide +kernel) (by decide +kernel)
theorem tw_378 : Cond.code yX4_turn cX4_turn 5 none ∈ gTs := gmem (i := 423) (by decide +kernel) (by decide +kernel)
theorem td_yX4_turn : gYd yX4_turn 2 := by refine ⟨?_, ?_, ?_⟩ <;> decide +kernel
theorem tw_376 : Cond.instanceMethod yX4_turn ∈ gTs := gmem (i := 421) (by decide +kernel) (by decide +kernel)
theorem tw_377 : Cond.selects RX4 yX4_turn yX4_turn ∈ gTs := gmem (i := 422) (by decide +kernel) (by decide +kernel)
theorem tw_380 : Cond.methodLink RX7 57 yX2_latest ∈ gTs := gmem (i := 425) (by decide +kernel) (by decide +kernel)
theorem tw_383 : Cond.code yX2_latest cX2_latest 1 (some (.object "EnclosureReferee$Position")) ∈ gTs := gmem (i := 428) (by decide +kernel) (by decide +kernel)
theorem td_yX2_latest : gYd yX2_latest 0 := by refine ⟨?_, ?_, ?_⟩ <;> decide +kernel
theorem tw_381 : Cond.instanceMethod yX2_latest ∈ gTs := gmem (i := 426) (by decide +kernel) (by decide +kernel)
theorem tw_382 : Cond.selects RX2 yX2_latest yX2_latest ∈ gTs := gmem (i := 427) (by decide +kernel) (by decide +kernel)
theorem tw_384 : Cond.methodLink RX7 61 yX4_number ∈ gTs := gmem (i := 429) (by decide +kernel) (by decide +kernel)
theorem tw_387 : Cond.code yX4_number cX4_number 2 (some .int) ∈ gTs := gmem (i := 432) (by decide +kernel) (by decide +kernel)
theorem td_yX4_number : gYd yX4_number 1 := by refine ⟨?_, ?_, ?_⟩ <;> decide +kernel
theorem tw_385 : Cond.instanceMethod yX4_number ∈ gTs := gmem (i := 430) (by decide +kernel) (by decide +kernel)
theorem tw_386 : Cond.selects RX4 yX4_number yX4_number ∈ gTs := gmem (i := 431) (by decide +kernel) (by decide +kernel)
theorem tw_388 : Cond.methodLink RX4 28 yX4_in ∈ gTs := gmem (i := 433) (by decide +kernel) (by decide +kernel)
theorem tw_389 : Cond.methodLink RX4 32 yJ13_bitCount_95d88 ∈ gTs := gmem (i := 434) (by decide +kernel) (by decide +kernel)
theorem tw_391 : Cond.code yJ13_bitCount_95d88 cJ13_bitCount_95d88 2 (some .int) ∈ gTs := gmem (i := 436) (by decide +kernel) (by decide +kernel)
theorem td_yJ13_bitCount_95d88 : gYd yJ13_bitCount_95d88 1 := by refine ⟨?_, ?_, ?_⟩ <;> decide +kernel
theorem tw_390 : Cond.static yJ13_bitCount_95d88 ∈ gTs := gmem (i := 435) (by decide +kernel) (by decide +kernel)
theorem tw_398 : Cond.methodLink RL 15 yX7_setRule ∈ gTs := gmem (i := 443) (by decide +kernel) (by decide +kernel)
theorem tw_401 : Cond.code yX7_setRule cX7_setRule 3 (some .int) ∈ gTs := gmem (i := 446) (by decide +kernel) (by decide +kernel)
theorem td_yX7_setRule : gYd yX7_setRule 1 := by refine ⟨?_, ?_, ?_⟩ <;> decide +kernel
theorem tw_399 : Cond.instanceMethod yX7_setRule ∈ gTs := gmem (i := 444) (by decide +kernel) (by decide +kernel)
theorem tw_400 : Cond.selects RX7 yX7_setRule yX7_setRule ∈ gTs := gmem (i := 445) (by decide +kernel) (by decide +kernel)
theorem tw_407 : Cond.methodLink RL 19 yX7_setBonus ∈ gTs := gmem (i := 452) (by decide +kernel) (by decide +kernel)
theorem tw_410 : Cond.code yX7_setBonus cX7_setBonus 4 (some .int) ∈ gTs := gmem (i := 455) (by decide +kernel) (by decide +kernel)
theorem td_yX7_setBonus : gYd yX7_setBonus 2 := by refine ⟨?_, ?_, ?_⟩ <;> decide +kernel
theorem tw_408 : Cond.instanceMethod yX7_setBonus ∈ gTs := gmem (i := 453) (by decide +kernel) (by decide +kernel)
theorem tw_409 : Cond.selects RX7 yX7_setBonus yX7_setBonus ∈ gTs := gmem (i := 454) (by decide +kernel) (by decide +kernel)
theorem tw_411 : Cond.methodLink RX7 73 yX7_isPlayer ∈ gTs := gmem (i := 456) (by decide +kernel) (by decide +kernel)
theorem tw_413 : Cond.code yX7_isPlayer cX7_isPlayer 1 (some .boolean) ∈ gTs := gmem (i := 458) (by decide +kernel) (by decide +kernel)
theorem td_yX7_isPlayer : gYd yX7_isPlayer 1 := by refine ⟨?_, ?_, ?_⟩ <;> decide +kernel
theorem tw_412 : Cond.static yX7_isPlayer ∈ gTs := gmem (i := 457) (by decide +kernel) (by decide +kernel)
theorem tw_431 : Cond.methodLink RX7 84 yX2_bonus ∈ gTs := gmem (i := 476) (by decide +kernel) (by decide +kernel)
theorem tw_434 : Cond.code yX2_bonus cX2_bonus 2 (some .int) ∈ gTs := gmem (i := 479) (by decide +kernel) (by decide +kernel)
theorem td_yX2_bonus : gYd yX2_bonus 1 := by refine ⟨?_, ?_, ?_⟩ <;> decide +kernel
theorem tw_432 : Cond.instanceMethod yX2_bonus ∈ gTs := gmem (i := 477) (by decide +kernel) (by decide +kernel)
theorem tw_433 : Cond.selects RX2 yX2_bonus yX2_bonus ∈ gTs := gmem (i := 478) (by decide +kernel) (by decide +kernel)
theorem tw_435 : Cond.methodLink RX7 87 yX2_changeBonus ∈ gTs := gmem (i := 480) (by decide +kernel) (by decide +kernel)
theorem tw_438 : Cond.code yX2_changeBonus cX2_changeBonus 3 none ∈ gTs := gmem (i := 483) (by decide +kernel) (by decide +kernel)
theorem td_yX2_changeBonus : gYd yX2_changeBonus 2 := by refine ⟨?_, ?_, ?_⟩ <;> decide +kernel
theorem tw_436 : Cond.instanceMethod yX2_changeBonus ∈ gTs := gmem (i := 481) (by decide +kernel) (by decide +kernel)
theorem tw_437 : Cond.selects RX2 yX2_changeBonus yX2_changeBonus ∈ gTs := gmem (i := 482) (by decide +kernel) (by decide +kernel)
theorem tw_444 : Cond.methodLink RL 25 yX7_play ∈ gTs := gmem (i := 489) (by decide +kernel) (by decide +kernel)
theorem tw_447 : Cond.code yX7_play cX7_play 3 (some .int) ∈ gTs := gmem (i := 492) (by decide +kernel) (by decide +kernel)
theorem td_yX7_play : gYd yX7_play 2 := by refine ⟨?_, ?_, ?_⟩ <;> decide +kernel
theorem tw_445 : Cond.instanceMethod yX7_play ∈ gTs := gmem (i := 490) (by decide +kernel) (by decide +kernel)
theorem tw_446 : Cond.selects RX7 yX7_play yX7_play ∈ gTs := gmem (i := 491) (by decide +kernel) (by decide +kernel)
theorem tw_448 : Cond.methodLink RX7 91 yX7_isChoice ∈ gTs := gmem (i := 493) (by decide +kernel) (by decide +kernel)
theorem tw_451 : Cond.code yX7_isChoice cX7_isChoice 2 (some .boolean) ∈ gTs := gmem (i := 496) (by decide +kernel) (by decide +kernel)
theorem td_yX7_isChoice : gYd yX7_isChoice 1 := by refine ⟨?_, ?_, ?_⟩ <;> decide +kernel
theorem tw_450 : Cond.instanceMethod yX7_isChoice ∈ gTs := gmem (i := 495) (by decide +kernel) (by decide +kernel)
theorem tw_452 : Cond.methodLink RX7 141 yX0_has ∈ gTs := gmem (i := 497) (by decide +kernel) (by decide +kernel)
theorem tw_455 : Cond.code yX0_has cX0_has 2 (some .boolean) ∈ gTs := gmem (i := 500) (by decide +kernel) (by decide +kernel)
theorem td_yX0_has : gYd yX0_has 1 := by refine ⟨?_, ?_, ?_⟩ <;> decide +kernel
theorem tw_453 : Cond.instanceMethod yX0_has ∈ gTs := gmem (i := 498) (by decide +kernel) (by decide +kernel)
theorem tw_454 : Cond.selects RX0 yX0_has yX0_has ∈ gTs := gmem (i := 499) (by decide +kernel) (by decide +kernel)
theorem tw_473 : Cond.methodLink RX7 105 yX7_admits ∈ gTs := gmem (i := 518) (by decide +kernel) (by decide +kernel)
theorem tw_476 : Cond.code yX7_admits cX7_admits 4 (some .boolean) ∈ gTs := gmem (i := 521) (by decide +kernel) (by decide +kernel)
theorem td_yX7_admits : gYd yX7_admits 2 := by refine ⟨?_, ?_, ?_⟩ <;> decide +kernel
theorem tw_475 : Cond.instanceMethod yX7_admits ∈ gTs := gmem (i := 520) (by decide +kernel) (by decide +kernel)
theorem tw_477 : Cond.methodLink RX7 250 yX4_admits ∈ gTs := gmem (i := 522) (by decide +kernel) (by decide +kernel)
theorem tw_480 : Cond.code yX4_admits cX4_admits 2 (some .boolean) ∈ gTs := gmem (i := 525) (by decide +kernel) (by decide +kernel)
theorem td_yX4_admits : gYd yX4_admits 1 := by refine ⟨?_, ?_, ?_⟩ <;> decide +kernel
theorem tw_478 : Cond.instanceMethod yX4_admits ∈ gTs := gmem (i := 523) (by decide +kernel) (by decide +kernel)
theorem tw_479 : Cond.selects RX4 yX4_admits yX4_admits ∈ gTs := gmem (i := 524) (by decide +kernel) (by decide +kernel)
theorem tw_481 : Cond.methodLink RX7 308 yX5_tell ∈ gTs := gmem (i := 526) (by decide +kernel) (by decide +kernel)
theorem tw_484 : Cond.code yX5_tell cX5_tell 6 none ∈ gTs := gmem (i := 529) (by decide +kernel) (by decide +kernel)
theorem td_yX5_tell : gYd yX5_tell 3 := by refine ⟨?_, ?_, ?_⟩ <;> decide +kernel
theorem tw_482 : Cond.instanceMethod yX5_tell ∈ gTs := gmem (i := 527) (by decide +kernel) (by decide +kernel)
theorem tw_483 : Cond.selects RX5 yX5_tell yX5_tell ∈ gTs := gmem (i := 528) (by decide +kernel) (by decide +kernel)
theorem tw_485 : Cond.methodLink RX5 27 yX5_add ∈ gTs := gmem (i := 530) (by decide +kernel) (by decide +kernel)
theorem tw_488 : Cond.code yX5_add cX5_add 3 none ∈ gTs := gmem (i := 533) (by decide +kernel) (by decide +kernel)
theorem td_yX5_add : gYd yX5_add 2 := by refine ⟨?_, ?_, ?_⟩ <;> decide +kernel
theorem tw_487 : Cond.instanceMethod yX5_add ∈ gTs := gmem (i := 532) (by decide +kernel) (by decide +kernel)
theorem tw_489 : Cond.methodLink RX5 31 yX2_roundThatChanged ∈ gTs := gmem (i := 534) (by decide +kernel) (by decide +kernel)
theorem tw_492 : Cond.code yX2_roundThatChanged cX2_roundThatChanged 4 (some .int) ∈ gTs := gmem (i := 537) (by decide +kernel) (by decide +kernel)
theorem td_yX2_roundThatChanged : gYd yX2_roundThatChanged 1 := by refine ⟨?_, ?_, ?_⟩ <;> decide +kernel
theorem tw_490 : Cond.instanceMethod yX2_roundThatChanged ∈ gTs := gmem (i := 535) (by decide +kernel) (by decide +kernel)
theorem tw_491 : Cond.selects RX2 yX2_roundThatChanged yX2_roundThatChanged ∈ gTs := gmem (i := 536) (by decide +kernel) (by decide +kernel)
theorem tw_493 : Cond.methodLink RX2 133 yX6_changed ∈ gTs := gmem (i := 538) (by decide +kernel) (by decide +kernel)
theorem tw_496 : Cond.code yX6_changed cX6_changed 2 (some .boolean) ∈ gTs := gmem (i := 541) (by decide +kernel) (by decide +kernel)
theorem td_yX6_changed : gYd yX6_changed 1 := by refine ⟨?_, ?_, ?_⟩ <;> decide +kernel
theorem tw_494 : Cond.instanceMethod yX6_changed ∈ gTs := gmem (i := 539) (by decide +kernel) (by decide +kernel)
theorem tw_495 : Cond.selects RX6 yX6_changed yX6_changed ∈ gTs := gmem (i := 540) (by decide +kernel) (by decide +kernel)
theorem tw_497 : Cond.methodLink RX6 67 yX6_waveThatChanged ∈ gTs := gmem (i := 542) (by decide +kernel) (by decide +kernel)
theorem tw_500 : Cond.code yX6_waveThatChanged cX6_waveThatChanged 4 (some .int) ∈ gTs := gmem (i := 545) (by decide +kernel) (by decide +kernel)
theorem td_yX6_waveThatChanged : gYd yX6_waveThatChanged 1 := by refine ⟨?_, ?_, ?_⟩ <;> decide +kernel
theorem tw_498 : Cond.instanceMethod yX6_waveThatChanged ∈ gTs := gmem (i := 543) (by decide +kernel) (by decide +kernel)
theorem tw_499 : Cond.selects RX6 yX6_waveThatChanged yX6_waveThatChanged ∈ gTs := gmem (i := 544) (by decide +kernel) (by decide +kernel)
theorem tw_501 : Cond.methodLink RX5 35 yX2_latest ∈ gTs := gmem (i := 546) (by decide +kernel) (by decide +kernel)
theorem tw_502 : Cond.methodLink RX5 39 yX4_stateOf ∈ gTs := gmem (i := 547) (by decide +kernel) (by decide +kernel)
theorem tw_505 : Cond.code yX4_stateOf cX4_stateOf 4 (some .int) ∈ gTs := gmem (i := 550) (by decide +kernel) (by decide +kernel)
theorem td_yX4_stateOf : gYd yX4_stateOf 1 := by refine ⟨?_, ?_, ?_⟩ <;> decide +kernel
theorem tw_503 : Cond.instanceMethod yX4_stateOf ∈ gTs := gmem (i := 548) (by decide +kernel) (by decide +kernel)
theorem tw_504 : Cond.selects RX4 yX4_stateOf yX4_stateOf ∈ gTs := gmem (i := 549) (by decide +kernel) (by decide +kernel)
theorem tw_506 : Cond.methodLink RX5 44 yX2_waveThatChanged ∈ gTs := gmem (i := 551) (by decide +kernel) (by decide +kernel)
theorem tw_509 : Cond.code yX2_waveThatChanged cX2_waveThatChanged 3 (some .int) ∈ gTs := gmem (i := 554) (by decide +kernel) (by decide +kernel)
theorem td_yX2_waveThatChanged : gYd yX2_waveThatChanged 1 := by refine ⟨?_, ?_, ?_⟩ <;> decide +kernel
theorem tw_507 : Cond.instanceMethod yX2_waveThatChanged ∈ gTs := gmem (i := 552) (by decide +kernel) (by decide +kernel)
theorem tw_508 : Cond.selects RX2 yX2_waveThatChanged yX2_waveThatChanged ∈ gTs := gmem (i := 553) (by decide +kernel) (by decide +kernel)
theorem tw_510 : Cond.methodLink RX2 136 yX2_roundThatChanged ∈ gTs := gmem (i := 555) (by decide +kernel) (by decide +kernel)
theorem tw_511 : Cond.methodLink RX2 139 yX6_waveThatChanged ∈ gTs := gmem (i := 556) (by decide +kernel) (by decide +kernel)
theorem tw_512 : Cond.methodLink RX5 51 yX6_changedByWave ∈ gTs := gmem (i := 557) (by decide +kernel) (by decide +kernel)
theorem tw_515 : Cond.code yX6_changedByWave cX6_changedByWave 2 (some .int) ∈ gTs := gmem (i := 560) (by decide +kernel) (by decide +kernel)
theorem td_yX6_changedByWave : gYd yX6_changedByWave 1 := by refine ⟨?_, ?_, ?_⟩ <;> decide +kernel
theorem tw_513 : Cond.instanceMethod yX6_changedByWave ∈ gTs := gmem (i := 558) (by decide +kernel) (by decide +kernel)
theorem tw_514 : Cond.selects RX6 yX6_changedByWave yX6_changedByWave ∈ gTs := gmem (i := 559) (by decide +kernel) (by decide +kernel)
theorem tw_516 : Cond.methodLink RX6 61 yJ13_bitCount_95d88 ∈ gTs := gmem (i := 561) (by decide +kernel) (by decide +kernel)
theorem tw_533 : Cond.methodLink RX7 114 yX2_addRound ∈ gTs := gmem (i := 578) (by decide +kernel) (by decide +kernel)
theorem tw_536 : Cond.code yX2_addRound cX2_addRound 5 (some .int) ∈ gTs := gmem (i := 581) (by decide +kernel) (by decide +kernel)
theorem td_yX2_addRound : gYd yX2_addRound 2 := by refine ⟨?_, ?_, ?_⟩ <;> decide +kernel
theorem tw_534 : Cond.instanceMethod yX2_addRound ∈ gTs := gmem (i := 579) (by decide +kernel) (by decide +kernel)
theorem tw_535 : Cond.selects RX2 yX2_addRound yX2_addRound ∈ gTs := gmem (i := 580) (by decide +kernel) (by decide +kernel)
theorem tw_537 : Cond.methodLink RX2 87 yX2_latest ∈ gTs := gmem (i := 582) (by decide +kernel) (by decide +kernel)
theorem tw_538 : Cond.methodLink RX2 104 yX2_stateAfterClash ∈ gTs := gmem (i := 583) (by decide +kernel) (by decide +kernel)
theorem tw_541 : Cond.code yX2_stateAfterClash cX2_stateAfterClash 3 (some .int) ∈ gTs := gmem (i := 586) (by decide +kernel) (by decide +kernel)
theorem td_yX2_stateAfterClash : gYd yX2_stateAfterClash 1 := by refine ⟨?_, ?_, ?_⟩ <;> decide +kernel
theorem tw_539 : Cond.instanceMethod yX2_stateAfterClash ∈ gTs := gmem (i := 584) (by decide +kernel) (by decide +kernel)
theorem tw_540 : Cond.selects RX2 yX2_stateAfterClash yX2_stateAfterClash ∈ gTs := gmem (i := 585) (by decide +kernel) (by decide +kernel)
theorem tw_542 : Cond.methodLink RX2 101 yX2_lead ∈ gTs := gmem (i := 587) (by decide +kernel) (by decide +kernel)
theorem tw_545 : Cond.code yX2_lead cX2_lead 2 (some .int) ∈ gTs := gmem (i := 590) (by decide +kernel) (by decide +kernel)
theorem td_yX2_lead : gYd yX2_lead 1 := by refine ⟨?_, ?_, ?_⟩ <;> decide +kernel
theorem tw_543 : Cond.instanceMethod yX2_lead ∈ gTs := gmem (i := 588) (by decide +kernel) (by decide +kernel)
theorem tw_544 : Cond.selects RX2 yX2_lead yX2_lead ∈ gTs := gmem (i := 589) (by decide +kernel) (by decide +kernel)
theorem tw_546 : Cond.methodLink RX2 97 yX4_lead ∈ gTs := gmem (i := 591) (by decide +kernel) (by decide +kernel)
theorem tw_549 : Cond.code yX4_lead cX4_lead 1 (some .int) ∈ gTs := gmem (i := 594) (by decide +kernel) (by decide +kernel)
theorem td_yX4_lead : gYd yX4_lead 0 := by refine ⟨?_, ?_, ?_⟩ <;> decide +kernel
theorem tw_547 : Cond.instanceMethod yX4_lead ∈ gTs := gmem (i := 592) (by decide +kernel) (by decide +kernel)
theorem tw_548 : Cond.selects RX4 yX4_lead yX4_lead ∈ gTs := gmem (i := 593) (by decide +kernel) (by decide +kernel)
theorem tw_550 : Cond.methodLink RX2 107 yX6_make ∈ gTs := gmem (i := 595) (by decide +kernel) (by decide +kernel)
theorem tw_553 : Cond.code yX6_make cX6_make 8 none ∈ gTs := gmem (i := 598) (by decide +kernel) (by decide +kernel)
theorem td_yX6_make : gYd yX6_make 5 := by refine ⟨?_, ?_, ?_⟩ <;> decide +kernel
theorem tw_551 : Cond.instanceMethod yX6_make ∈ gTs := gmem (i := 596) (by decide +kernel) (by decide +kernel)
theorem tw_552 : Cond.selects RX6 yX6_make yX6_make ∈ gTs := gmem (i := 597) (by decide +kernel) (by decide +kernel)
theorem tw_554 : Cond.methodLink RX6 49 yX4_give ∈ gTs := gmem (i := 599) (by decide +kernel) (by decide +kernel)
theorem tw_555 : Cond.methodLink RX6 53 yX4_capture ∈ gTs := gmem (i := 600) (by decide +kernel) (by decide +kernel)
theorem tw_558 : Cond.code yX4_capture cX4_capture 16 (some .long) ∈ gTs := gmem (i := 603) (by decide +kernel) (by decide +kernel)
theorem td_yX4_capture : gYd yX4_capture 1 := by refine ⟨?_, ?_, ?_⟩ <;> decide +kernel
theorem tw_556 : Cond.instanceMethod yX4_capture ∈ gTs := gmem (i := 601) (by decide +kernel) (by decide +kernel)
theorem tw_557 : Cond.selects RX4 yX4_capture yX4_capture ∈ gTs := gmem (i := 602) (by decide +kernel) (by decide +kernel)
theorem tw_559 : Cond.methodLink RX4 56 yX4_open ∈ gTs := gmem (i := 604) (by decide +kernel) (by decide +kernel)
theorem tw_562 : Cond.code yX4_open cX4_open 3 (some .long) ∈ gTs := gmem (i := 607) (by decide +kernel) (by decide +kernel)
theorem td_yX4_open : gYd yX4_open 2 := by refine ⟨?_, ?_, ?_⟩ <;> decide +kernel
theorem tw_560 : Cond.instanceMethod yX4_open ∈ gTs := gmem (i := 605) (by decide +kernel) (by decide +kernel)
theorem tw_561 : Cond.selects RX4 yX4_open yX4_open ∈ gTs := gmem (i := 606) (by decide +kernel) (by decide +kernel)
theorem tw_563 : Cond.methodLink RX4 51 yX4_own ∈ gTs := gmem (i := 608) (by decide +kernel) (by decide +kernel)
theorem tw_566 : Cond.code yX4_own cX4_own 2 (some .long) ∈ gTs := gmem (i := 611) (by decide +kernel) (by decide +kernel)
theorem td_yX4_own : gYd yX4_own 1 := by refine ⟨?_, ?_, ?_⟩ <;> decide +kernel
theorem tw_564 : Cond.instanceMethod yX4_own ∈ gTs := gmem (i := 609) (by decide +kernel) (by decide +kernel)
theorem tw_565 : Cond.selects RX4 yX4_own yX4_own ∈ gTs := gmem (i := 610) (by decide +kernel) (by decide +kernel)
theorem tw_567 : Cond.methodLink RX4 63 yX0_flood ∈ gTs := gmem (i := 612) (by decide +kernel) (by decide +kernel)
theorem tw_570 : Cond.code yX0_flood cX0_flood 14 (some .long) ∈ gTs := gmem (i := 615) (by decide +kernel) (by decide +kernel)
theorem td_yX0_flood : gYd yX0_flood 2 := by refine ⟨?_, ?_, ?_⟩ <;> decide +kernel
theorem tw_568 : Cond.instanceMethod yX0_flood ∈ gTs := gmem (i := 613) (by decide +kernel) (by decide +kernel)
theorem tw_569 : Cond.selects RX0 yX0_flood yX0_flood ∈ gTs := gmem (i := 614) (by decide +kernel) (by decide +kernel)
theorem tw_572 : Cond.methodLink RX4 80 yX4_inLargerRegion ∈ gTs := gmem (i := 617) (by decide +kernel) (by decide +kernel)
theorem tw_574 : Cond.code yX4_inLargerRegion cX4_inLargerRegion 12 (some .long) ∈ gTs := gmem (i := 619) (by decide +kernel) (by decide +kernel)
theorem td_yX4_inLargerRegion : gYd yX4_inLargerRegion 4 := by refine ⟨?_, ?_, ?_⟩ <;> decide +kernel
theorem tw_573 : Cond.static yX4_inLargerRegion ∈ gTs := gmem (i := 618) (by decide +kernel) (by decide +kernel)
theorem tw_575 : Cond.methodLink RX2 111 yX2_score ∈ gTs := gmem (i := 620) (by decide +kernel) (by decide +kernel)
theorem tw_578 : Cond.code yX2_score cX2_score 2 (some .int) ∈ gTs := gmem (i := 623) (by decide +kernel) (by decide +kernel)
theorem td_yX2_score : gYd yX2_score 1 := by refine ⟨?_, ?_, ?_⟩ <;> decide +kernel
theorem tw_576 : Cond.instanceMethod yX2_score ∈ gTs := gmem (i := 621) (by decide +kernel) (by decide +kernel)
theorem tw_577 : Cond.selects RX2 yX2_score yX2_score ∈ gTs := gmem (i := 622) (by decide +kernel) (by decide +kernel)
theorem tw_579 : Cond.methodLink RX2 91 yX4_points ∈ gTs := gmem (i := 624) (by decide +kernel) (by decide +kernel)
theorem tw_582 : Cond.code yX4_points cX4_points 2 (some .int) ∈ gTs := gmem (i := 627) (by decide +kernel) (by decide +kernel)
theorem td_yX4_points : gYd yX4_points 1 := by refine ⟨?_, ?_, ?_⟩ <;> decide +kernel
theorem tw_580 : Cond.instanceMethod yX4_points ∈ gTs := gmem (i := 625) (by decide +kernel) (by decide +kernel)
theorem tw_581 : Cond.selects RX4 yX4_points yX4_points ∈ gTs := gmem (i := 626) (by decide +kernel) (by decide +kernel)
theorem tw_583 : Cond.methodLink RX4 38 yX4_number ∈ gTs := gmem (i := 628) (by decide +kernel) (by decide +kernel)
theorem tw_584 : Cond.methodLink RX4 42 yX4_captured ∈ gTs := gmem (i := 629) (by decide +kernel) (by decide +kernel)
theorem tw_587 : Cond.code yX4_captured cX4_captured 2 (some .int) ∈ gTs := gmem (i := 632) (by decide +kernel) (by decide +kernel)
theorem td_yX4_captured : gYd yX4_captured 1 := by refine ⟨?_, ?_, ?_⟩ <;> decide +kernel
theorem tw_585 : Cond.instanceMethod yX4_captured ∈ gTs := gmem (i := 630) (by decide +kernel) (by decide +kernel)
theorem tw_586 : Cond.selects RX4 yX4_captured yX4_captured ∈ gTs := gmem (i := 631) (by decide +kernel) (by decide +kernel)
theorem tw_588 : Cond.methodLink RX2 94 yX2_bonus ∈ gTs := gmem (i := 633) (by decide +kernel) (by decide +kernel)
theorem tw_589 : Cond.methodLink RX2 120 yX6_changedByWaves ∈ gTs := gmem (i := 634) (by decide +kernel) (by decide +kernel)
theorem tw_592 : Cond.code yX6_changedByWaves cX6_changedByWaves 3 (some .int) ∈ gTs := gmem (i := 637) (by decide +kernel) (by decide +kernel)
theorem td_yX6_changedByWaves : gYd yX6_changedByWaves 0 := by refine ⟨?_, ?_, ?_⟩ <;> decide +kernel
theorem tw_590 : Cond.instanceMethod yX6_changedByWaves ∈ gTs := gmem (i := 635) (by decide +kernel) (by decide +kernel)
theorem tw_591 : Cond.selects RX6 yX6_changedByWaves yX6_changedByWaves ∈ gTs := gmem (i := 636) (by decide +kernel) (by decide +kernel)
theorem tw_596 : Cond.methodLink RL 32 yX7_undo ∈ gTs := gmem (i := 641) (by decide +kernel) (by decide +kernel)
theorem tw_599 : Cond.code yX7_undo cX7_undo 1 (some .int) ∈ gTs := gmem (i := 644) (by decide +kernel) (by decide +kernel)
theorem td_yX7_undo : gYd yX7_undo 0 := by refine ⟨?_, ?_, ?_⟩ <;> decide +kernel
theorem tw_597 : Cond.instanceMethod yX7_undo ∈ gTs := gmem (i := 642) (by decide +kernel) (by decide +kernel)
theorem tw_598 : Cond.selects RX7 yX7_undo yX7_undo ∈ gTs := gmem (i := 643) (by decide +kernel) (by decide +kernel)
theorem tw_604 : Cond.methodLink RL 36 yX7_cell ∈ gTs := gmem (i := 649) (by decide +kernel) (by decide +kernel)
theorem tw_607 : Cond.code yX7_cell cX7_cell 4 (some .int) ∈ gTs := gmem (i := 652) (by decide +kernel) (by decide +kernel)
theorem td_yX7_cell : gYd yX7_cell 2 := by refine ⟨?_, ?_, ?_⟩ <;> decide +kernel
theorem tw_605 : Cond.instanceMethod yX7_cell ∈ gTs := gmem (i := 650) (by decide +kernel) (by decide +kernel)
theorem tw_606 : Cond.selects RX7 yX7_cell yX7_cell ∈ gTs := gmem (i := 651) (by decide +kernel) (by decide +kernel)
theorem tw_608 : Cond.methodLink RX7 135 yX0_cellAt ∈ gTs := gmem (i := 653) (by decide +kernel) (by decide +kernel)
theorem tw_609 : Cond.methodLink RX7 138 yX4_stateOf ∈ gTs := gmem (i := 654) (by decide +kernel) (by decide +kernel)
theorem tw_613 : Cond.methodLink RL 39 yX7_since ∈ gTs := gmem (i := 658) (by decide +kernel) (by decide +kernel)
theorem tw_616 : Cond.code yX7_since cX7_since 3 (some .int) ∈ gTs := gmem (i := 661) (by decide +kernel) (by decide +kernel)
theorem td_yX7_since : gYd yX7_since 2 := by refine ⟨?_, ?_, ?_⟩ <;> decide +kernel
theorem tw_614 : Cond.instanceMethod yX7_since ∈ gTs := gmem (i := 659) (by decide +kernel) (by decide +kernel)
theorem tw_615 : Cond.selects RX7 yX7_since yX7_since ∈ gTs := gmem (i := 660) (by decide +kernel) (by decide +kernel)
theorem tw_617 : Cond.methodLink RX7 144 yX2_roundThatChanged ∈ gTs := gmem (i := 662) (by decide +kernel) (by decide +kernel)
theorem tw_618 : Cond.methodLink RX7 147 yX2_waveThatChanged ∈ gTs := gmem (i := 663) (by decide +kernel) (by decide +kernel)
theorem tw_623 : Cond.methodLink RL 42 yX7_count ∈ gTs := gmem (i := 668) (by decide +kernel) (by decide +kernel)
theorem tw_626 : Cond.code yX7_count cX7_count 2 (some .int) ∈ gTs := gmem (i := 671) (by decide +kernel) (by decide +kernel)
theorem td_yX7_count : gYd yX7_count 1 := by refine ⟨?_, ?_, ?_⟩ <;> decide +kernel
theorem tw_624 : Cond.instanceMethod yX7_count ∈ gTs := gmem (i := 669) (by decide +kernel) (by decide +kernel)
theorem tw_625 : Cond.selects RX7 yX7_count yX7_count ∈ gTs := gmem (i := 670) (by decide +kernel) (by decide +kernel)
theorem tw_627 : Cond.methodLink RX7 152 yX2_clashes ∈ gTs := gmem (i := 672) (by decide +kernel) (by decide +kernel)
theorem tw_630 : Cond.code yX2_clashes cX2_clashes 3 (some .int) ∈ gTs := gmem (i := 675) (by decide +kernel) (by decide +kernel)
theorem td_yX2_clashes : gYd yX2_clashes 0 := by refine ⟨?_, ?_, ?_⟩ <;> decide +kernel
theorem tw_628 : Cond.instanceMethod yX2_clashes ∈ gTs := gmem (i := 673) (by decide +kernel) (by decide +kernel)
theorem tw_629 : Cond.selects RX2 yX2_clashes yX2_clashes ∈ gTs := gmem (i := 674) (by decide +kernel) (by decide +kernel)
theorem tw_631 : Cond.methodLink RX2 123 yX6_isClash ∈ gTs := gmem (i := 676) (by decide +kernel) (by decide +kernel)
theorem tw_634 : Cond.code yX6_isClash cX6_isClash 1 (some .boolean) ∈ gTs := gmem (i := 679) (by decide +kernel) (by decide +kernel)
theorem td_yX6_isClash : gYd yX6_isClash 0 := by refine ⟨?_, ?_, ?_⟩ <;> decide +kernel
theorem tw_632 : Cond.instanceMethod yX6_isClash ∈ gTs := gmem (i := 677) (by decide +kernel) (by decide +kernel)
theorem tw_633 : Cond.selects RX6 yX6_isClash yX6_isClash ∈ gTs := gmem (i := 678) (by decide +kernel) (by decide +kernel)
theorem tw_635 : Cond.methodLink RX7 156 yX2_waves ∈ gTs := gmem (i := 680) (by decide +kernel) (by decide +kernel)
theorem tw_638 : Cond.code yX2_waves cX2_waves 3 (some .int) ∈ gTs := gmem (i := 683) (by decide +kernel) (by decide +kernel)
theorem td_yX2_waves : gYd yX2_waves 0 := by refine ⟨?_, ?_, ?_⟩ <;> decide +kernel
theorem tw_636 : Cond.instanceMethod yX2_waves ∈ gTs := gmem (i := 681) (by decide +kernel) (by decide +kernel)
theorem tw_637 : Cond.selects RX2 yX2_waves yX2_waves ∈ gTs := gmem (i := 682) (by decide +kernel) (by decide +kernel)
theorem tw_639 : Cond.methodLink RX2 127 yX6_waves ∈ gTs := gmem (i := 684) (by decide +kernel) (by decide +kernel)
theorem tw_642 : Cond.code yX6_waves cX6_waves 3 (some .int) ∈ gTs := gmem (i := 687) (by decide +kernel) (by decide +kernel)
theorem td_yX6_waves : gYd yX6_waves 0 := by refine ⟨?_, ?_, ?_⟩ <;> decide +kernel
theorem tw_640 : Cond.instanceMethod yX6_waves ∈ gTs := gmem (i := 685) (by decide +kernel) (by decide +kernel)
theorem tw_641 : Cond.selects RX6 yX6_waves yX6_waves ∈ gTs := gmem (i := 686) (by decide +kernel) (by decide +kernel)
theorem tw_647 : Cond.methodLink RL 45 yX7_player ∈ gTs := gmem (i := 692) (by decide +kernel) (by decide +kernel)
theorem tw_650 : Cond.code yX7_player cX7_player 4 (some .int) ∈ gTs := gmem (i := 695) (by decide +kernel) (by decide +kernel)
theorem td_yX7_player : gYd yX7_player 2 := by refine ⟨?_, ?_, ?_⟩ <;> decide +kernel
theorem tw_648 : Cond.instanceMethod yX7_player ∈ gTs := gmem (i := 693) (by decide +kernel) (by decide +kernel)
theorem tw_649 : Cond.selects RX7 yX7_player yX7_player ∈ gTs := gmem (i := 694) (by decide +kernel) (by decide +kernel)
theorem tw_651 : Cond.methodLink RX7 161 yX2_score ∈ gTs := gmem (i := 696) (by decide +kernel) (by decide +kernel)
theorem tw_652 : Cond.methodLink RX7 164 yX4_captured ∈ gTs := gmem (i := 697) (by decide +kernel) (by decide +kernel)
theorem tw_653 : Cond.methodLink RX7 167 yX2_passes ∈ gTs := gmem (i := 698) (by decide +kernel) (by decide +kernel)
theorem tw_656 : Cond.code yX2_passes cX2_passes 4 (some .int) ∈ gTs := gmem (i := 701) (by decide +kernel) (by decide +kernel)
theorem td_yX2_passes : gYd yX2_passes 1 := by refine ⟨?_, ?_, ?_⟩ <;> decide +kernel
theorem tw_654 : Cond.instanceMethod yX2_passes ∈ gTs := gmem (i := 699) (by decide +kernel) (by decide +kernel)
theorem tw_655 : Cond.selects RX2 yX2_passes yX2_passes ∈ gTs := gmem (i := 700) (by decide +kernel) (by decide +kernel)
theorem tw_657 : Cond.methodLink RX2 130 yX6_choice ∈ gTs := gmem (i := 702) (by decide +kernel) (by decide +kernel)
theorem tw_660 : Cond.code yX6_choice cX6_choice 2 (some .int) ∈ gTs := gmem (i := 705) (by decide +kernel) (by decide +kernel)
theorem td_yX6_choice : gYd yX6_choice 1 := by refine ⟨?_, ?_, ?_⟩ <;> decide +kernel
theorem tw_658 : Cond.instanceMethod yX6_choice ∈ gTs := gmem (i := 703) (by decide +kernel) (by decide +kernel)
theorem tw_659 : Cond.selects RX6 yX6_choice yX6_choice ∈ gTs := gmem (i := 704) (by decide +kernel) (by decide +kernel)
theorem tw_661 : Cond.methodLink RX7 170 yX4_regions ∈ gTs := gmem (i := 706) (by decide +kernel) (by decide +kernel)
theorem tw_664 : Cond.code yX4_regions cX4_regions 9 (some .int) ∈ gTs := gmem (i := 709) (by decide +kernel) (by decide +kernel)
theorem td_yX4_regions : gYd yX4_regions 2 := by refine ⟨?_, ?_, ?_⟩ <;> decide +kernel
theorem tw_662 : Cond.instanceMethod yX4_regions ∈ gTs := gmem (i := 707) (by decide +kernel) (by decide +kernel)
theorem tw_663 : Cond.selects RX4 yX4_regions yX4_regions ∈ gTs := gmem (i := 708) (by decide +kernel) (by decide +kernel)
theorem tw_665 : Cond.methodLink RX7 174 yX4_largestRegion ∈ gTs := gmem (i := 710) (by decide +kernel) (by decide +kernel)
theorem tw_668 : Cond.code yX4_largestRegion cX4_largestRegion 7 (some .int) ∈ gTs := gmem (i := 713) (by decide +kernel) (by decide +kernel)
theorem td_yX4_largestRegion : gYd yX4_largestRegion 2 := by refine ⟨?_, ?_, ?_⟩ <;> decide +kernel
theorem tw_666 : Cond.instanceMethod yX4_largestRegion ∈ gTs := gmem (i := 711) (by decide +kernel) (by decide +kernel)
theorem tw_667 : Cond.selects RX4 yX4_largestRegion yX4_largestRegion ∈ gTs := gmem (i := 712) (by decide +kernel) (by decide +kernel)
theorem tw_669 : Cond.methodLink RX4 67 yJ9_max_7cf53 ∈ gTs := gmem (i := 714) (by decide +kernel) (by decide +kernel)
theorem tw_671 : Cond.code yJ9_max_7cf53 cJ9_max_7cf53 2 (some .int) ∈ gTs := gmem (i := 716) (by decide +kernel) (by decide +kernel)
theorem td_yJ9_max_7cf53 : gYd yJ9_max_7cf53 2 := by refine ⟨?_, ?_, ?_⟩ <;> decide +kernel
theorem tw_670 : Cond.static yJ9_max_7cf53 ∈ gTs := gmem (i := 715) (by decide +kernel) (by decide +kernel)
theorem tw_676 : Cond.methodLink RL 48 yX7_region ∈ gTs := gmem (i := 721) (by decide +kernel) (by decide +kernel)
theorem tw_679 : Cond.code yX7_region cX7_region 5 (some .long) ∈ gTs := gmem (i := 724) (by decide +kernel) (by decide +kernel)
theorem td_yX7_region : gYd yX7_region 2 := by refine ⟨?_, ?_, ?_⟩ <;> decide +kernel
theorem tw_677 : Cond.instanceMethod yX7_region ∈ gTs := gmem (i := 722) (by decide +kernel) (by decide +kernel)
theorem tw_678 : Cond.selects RX7 yX7_region yX7_region ∈ gTs := gmem (i := 723) (by decide +kernel) (by decide +kernel)
theorem tw_681 : Cond.methodLink RX7 179 yX4_open ∈ gTs := gmem (i := 726) (by decide +kernel) (by decide +kernel)
theorem tw_682 : Cond.methodLink RX7 183 yX0_flood ∈ gTs := gmem (i := 727) (by decide +kernel) (by decide +kernel)
theorem tw_702 : Cond.methodLink RL 54 yX7_cells ∈ gTs := gmem (i := 747) (by decide +kernel) (by decide +kernel)
theorem tw_705 : Cond.code yX7_cells cX7_cells 2 (some .long) ∈ gTs := gmem (i := 750) (by decide +kernel) (by decide +kernel)
theorem td_yX7_cells : gYd yX7_cells 1 := by refine ⟨?_, ?_, ?_⟩ <;> decide +kernel
theorem tw_703 : Cond.instanceMethod yX7_cells ∈ gTs := gmem (i := 748) (by decide +kernel) (by decide +kernel)
theorem tw_704 : Cond.selects RX7 yX7_cells yX7_cells ∈ gTs := gmem (i := 749) (by decide +kernel) (by decide +kernel)
theorem tw_707 : Cond.methodLink RX7 194 yX4_in ∈ gTs := gmem (i := 752) (by decide +kernel) (by decide +kernel)
theorem tw_711 : Cond.methodLink RL 58 yX7_chain ∈ gTs := gmem (i := 756) (by decide +kernel) (by decide +kernel)
theorem tw_714 : Cond.code yX7_chain cX7_chain 4 (some .long) ∈ gTs := gmem (i := 759) (by decide +kernel) (by decide +kernel)
theorem td_yX7_chain : gYd yX7_chain 1 := by refine ⟨?_, ?_, ?_⟩ <;> decide +kernel
theorem tw_712 : Cond.instanceMethod yX7_chain ∈ gTs := gmem (i := 757) (by decide +kernel) (by decide +kernel)
theorem tw_713 : Cond.selects RX7 yX7_chain yX7_chain ∈ gTs := gmem (i := 758) (by decide +kernel) (by decide +kernel)
theorem tw_719 : Cond.methodLink RL 61 yX7_stonesToEnclose ∈ gTs := gmem (i := 764) (by decide +kernel) (by decide +kernel)
theorem tw_722 : Cond.code yX7_stonesToEnclose cX7_stonesToEnclose 5 (some .int) ∈ gTs := gmem (i := 767) (by decide +kernel) (by decide +kernel)
theorem td_yX7_stonesToEnclose : gYd yX7_stonesToEnclose 2 := by refine ⟨?_, ?_, ?_⟩ <;> decide +kernel
theorem tw_720 : Cond.instanceMethod yX7_stonesToEnclose ∈ gTs := gmem (i := 765) (by decide +kernel) (by decide +kernel)
theorem tw_721 : Cond.selects RX7 yX7_stonesToEnclose yX7_stonesToEnclose ∈ gTs := gmem (i := 766) (by decide +kernel) (by decide +kernel)
theorem tw_723 : Cond.methodLink RX7 200 yX4_stonesAround ∈ gTs := gmem (i := 768) (by decide +kernel) (by decide +kernel)
theorem tw_726 : Cond.code yX4_stonesAround cX4_stonesAround 13 (some .int) ∈ gTs := gmem (i := 771) (by decide +kernel) (by decide +kernel)
theorem td_yX4_stonesAround : gYd yX4_stonesAround 3 := by refine ⟨?_, ?_, ?_⟩ <;> decide +kernel
theorem tw_724 : Cond.instanceMethod yX4_stonesAround ∈ gTs := gmem (i := 769) (by decide +kernel) (by decide +kernel)
theorem tw_725 : Cond.selects RX4 yX4_stonesAround yX4_stonesAround ∈ gTs := gmem (i := 770) (by decide +kernel) (by decide +kernel)
theorem tw_727 : Cond.methodLink RX4 84 yX0_isInside ∈ gTs := gmem (i := 772) (by decide +kernel) (by decide +kernel)
theorem tw_730 : Cond.code yX0_isInside cX0_isInside 5 (some .boolean) ∈ gTs := gmem (i := 775) (by decide +kernel) (by decide +kernel)
theorem td_yX0_isInside : gYd yX0_isInside 2 := by refine ⟨?_, ?_, ?_⟩ <;> decide +kernel
theorem tw_728 : Cond.instanceMethod yX0_isInside ∈ gTs := gmem (i := 773) (by decide +kernel) (by decide +kernel)
theorem tw_729 : Cond.selects RX0 yX0_isInside yX0_isInside ∈ gTs := gmem (i := 774) (by decide +kernel) (by decide +kernel)
theorem tw_731 : Cond.methodLink RX0 44 yX0_flood ∈ gTs := gmem (i := 776) (by decide +kernel) (by decide +kernel)
theorem tw_732 : Cond.methodLink RX4 88 yX4_oneStoneEncloses ∈ gTs := gmem (i := 777) (by decide +kernel) (by decide +kernel)
theorem tw_734 : Cond.code yX4_oneStoneEncloses cX4_oneStoneEncloses 10 (some .boolean) ∈ gTs := gmem (i := 779) (by decide +kernel) (by decide +kernel)
theorem td_yX4_oneStoneEncloses : gYd yX4_oneStoneEncloses 4 := by refine ⟨?_, ?_, ?_⟩ <;> decide +kernel
theorem tw_733 : Cond.static yX4_oneStoneEncloses ∈ gTs := gmem (i := 778) (by decide +kernel) (by decide +kernel)
theorem tw_739 : Cond.methodLink RL 64 yX7_share ∈ gTs := gmem (i := 784) (by decide +kernel) (by decide +kernel)
theorem tw_742 : Cond.code yX7_share cX7_share 2 (some .double) ∈ gTs := gmem (i := 787) (by decide +kernel) (by decide +kernel)
theorem td_yX7_share : gYd yX7_share 1 := by refine ⟨?_, ?_, ?_⟩ <;> decide +kernel
theorem tw_740 : Cond.instanceMethod yX7_share ∈ gTs := gmem (i := 785) (by decide +kernel) (by decide +kernel)
theorem tw_741 : Cond.selects RX7 yX7_share yX7_share ∈ gTs := gmem (i := 786) (by decide +kernel) (by decide +kernel)
theorem tw_743 : Cond.methodLink RX7 206 yX4_own ∈ gTs := gmem (i := 788) (by decide +kernel) (by decide +kernel)
theorem tw_744 : Cond.methodLink RX7 209 yX0_partOfBoard ∈ gTs := gmem (i := 789) (by decide +kernel) (by decide +kernel)
theorem tw_747 : Cond.code yX0_partOfBoard cX0_partOfBoard 3 (some .double) ∈ gTs := gmem (i := 792) (by decide +kernel) (by decide +kernel)
theorem td_yX0_partOfBoard : gYd yX0_partOfBoard 1 := by refine ⟨?_, ?_, ?_⟩ <;> decide +kernel
theorem tw_745 : Cond.instanceMethod yX0_partOfBoard ∈ gTs := gmem (i := 790) (by decide +kernel) (by decide +kernel)
theorem tw_746 : Cond.selects RX0 yX0_partOfBoard yX0_partOfBoard ∈ gTs := gmem (i := 791) (by decide +kernel) (by decide +kernel)
theorem tw_748 : Cond.methodLink RX0 36 yJ13_bitCount_95d88 ∈ gTs := gmem (i := 793) (by decide +kernel) (by decide +kernel)
theorem tw_752 : Cond.methodLink RL 68 yX7_round ∈ gTs := gmem (i := 797) (by decide +kernel) (by decide +kernel)
theorem tw_755 : Cond.code yX7_round cX7_round 4 (some .int) ∈ gTs := gmem (i := 800) (by decide +kernel) (by decide +kernel)
theorem td_yX7_round : gYd yX7_round 2 := by refine ⟨?_, ?_, ?_⟩ <;> decide +kernel
theorem tw_753 : Cond.instanceMethod yX7_round ∈ gTs := gmem (i := 798) (by decide +kernel) (by decide +kernel)
theorem tw_754 : Cond.selects RX7 yX7_round yX7_round ∈ gTs := gmem (i := 799) (by decide +kernel) (by decide +kernel)
theorem tw_757 : Cond.methodLink RX7 219 yX6_choice ∈ gTs := gmem (i := 802) (by decide +kernel) (by decide +kernel)
theorem tw_758 : Cond.methodLink RX7 224 yX6_isClash ∈ gTs := gmem (i := 803) (by decide +kernel) (by decide +kernel)
theorem tw_759 : Cond.methodLink RX7 227 yX6_waves ∈ gTs := gmem (i := 804) (by decide +kernel) (by decide +kernel)
theorem tw_760 : Cond.methodLink RX7 228 yX6_changedByWaves ∈ gTs := gmem (i := 805) (by decide +kernel) (by decide +kernel)
theorem tw_765 : Cond.methodLink RL 71 yX7_turningPoint ∈ gTs := gmem (i := 810) (by decide +kernel) (by decide +kernel)
theorem tw_768 : Cond.code yX7_turningPoint cX7_turningPoint 1 (some .int) ∈ gTs := gmem (i := 813) (by decide +kernel) (by decide +kernel)
theorem td_yX7_turningPoint : gYd yX7_turningPoint 0 := by refine ⟨?_, ?_, ?_⟩ <;> decide +kernel
theorem tw_766 : Cond.instanceMethod yX7_turningPoint ∈ gTs := gmem (i := 811) (by decide +kernel) (by decide +kernel)
theorem tw_767 : Cond.selects RX7 yX7_turningPoint yX7_turningPoint ∈ gTs := gmem (i := 812) (by decide +kernel) (by decide +kernel)
theorem tw_769 : Cond.methodLink RX7 239 yX2_roundOfGreatestChange ∈ gTs := gmem (i := 814) (by decide +kernel) (by decide +kernel)
theorem tw_772 : Cond.code yX2_roundOfGreatestChange cX2_roundOfGreatestChange 7 (some .int) ∈ gTs := gmem (i := 817) (by decide +kernel) (by decide +kernel)
theorem td_yX2_roundOfGreatestChange : gYd yX2_roundOfGreatestChange 0 := by refine ⟨?_, ?_, ?_⟩ <;> decide +kernel
theorem tw_770 : Cond.instanceMethod yX2_roundOfGreatestChange ∈ gTs := gmem (i := 815) (by decide +kernel) (by decide +kernel)
theorem tw_771 : Cond.selects RX2 yX2_roundOfGreatestChange yX2_roundOfGreatestChange ∈ gTs := gmem (i := 816) (by decide +kernel) (by decide +kernel)
theorem tw_773 : Cond.methodLink RX2 142 yJ9_abs_0f7a4 ∈ gTs := gmem (i := 818) (by decide +kernel) (by decide +kernel)
theorem tw_775 : Cond.code yJ9_abs_0f7a4 cJ9_abs_0f7a4 1 (some .int) ∈ gTs := gmem (i := 820) (by decide +kernel) (by decide +kernel)
theorem td_yJ9_abs_0f7a4 : gYd yJ9_abs_0f7a4 1 := by refine ⟨?_, ?_, ?_⟩ <;> decide +kernel
theorem tw_774 : Cond.static yJ9_abs_0f7a4 ∈ gTs := gmem (i := 819) (by decide +kernel) (by decide +kernel)
theorem tw_779 : Cond.methodLink RL 74 yX7_guarantee ∈ gTs := gmem (i := 824) (by decide +kernel) (by decide +kernel)
theorem tw_782 : Cond.code yX7_guarantee cX7_guarantee 4 (some .int) ∈ gTs := gmem (i := 827) (by decide +kernel) (by decide +kernel)
theorem td_yX7_guarantee : gYd yX7_guarantee 3 := by refine ⟨?_, ?_, ?_⟩ <;> decide +kernel
theorem tw_780 : Cond.instanceMethod yX7_guarantee ∈ gTs := gmem (i := 825) (by decide +kernel) (by decide +kernel)
theorem tw_781 : Cond.selects RX7 yX7_guarantee yX7_guarantee ∈ gTs := gmem (i := 826) (by decide +kernel) (by decide +kernel)
theorem tw_783 : Cond.methodLink RX7 242 yX7_isDepth ∈ gTs := gmem (i := 828) (by decide +kernel) (by decide +kernel)
theorem tw_785 : Cond.code yX7_isDepth cX7_isDepth 1 (some .boolean) ∈ gTs := gmem (i := 830) (by decide +kernel) (by decide +kernel)
theorem td_yX7_isDepth : gYd yX7_isDepth 1 := by refine ⟨?_, ?_, ?_⟩ <;> decide +kernel
theorem tw_784 : Cond.static yX7_isDepth ∈ gTs := gmem (i := 829) (by decide +kernel) (by decide +kernel)
theorem tw_787 : Cond.methodLink RX7 247 yX7_canLookAhead ∈ gTs := gmem (i := 832) (by decide +kernel) (by decide +kernel)
theorem tw_790 : Cond.code yX7_canLookAhead cX7_canLookAhead 3 (some .boolean) ∈ gTs := gmem (i := 835) (by decide +kernel) (by decide +kernel)
theorem td_yX7_canLookAhead : gYd yX7_canLookAhead 1 := by refine ⟨?_, ?_, ?_⟩ <;> decide +kernel
theorem tw_789 : Cond.instanceMethod yX7_canLookAhead ∈ gTs := gmem (i := 834) (by decide +kernel) (by decide +kernel)
theorem tw_795 : Cond.code yX1_leastValue cX1_leastValue 15 (some .int) ∈ gTs := gmem (i := 840) (by decide +kernel) (by decide +kernel)
theorem tw_794 : Cond.instanceMethod yX1_leastValue ∈ gTs := gmem (i := 839) (by decide +kernel) (by decide +kernel)
theorem td_yX1_leastValue : gYd yX1_leastValue 5 := by refine ⟨?_, ?_, ?_⟩ <;> decide +kernel
theorem tw_796 : Cond.methodLink RX1 21 yX2_stateAfterClash ∈ gTs := gmem (i := 841) (by decide +kernel) (by decide +kernel)
theorem tw_798 : Cond.methodLink RX1 38 yX4_admits ∈ gTs := gmem (i := 843) (by decide +kernel) (by decide +kernel)
theorem tw_799 : Cond.methodLink RX1 44 yX6_make ∈ gTs := gmem (i := 844) (by decide +kernel) (by decide +kernel)
theorem tw_800 : Cond.methodLink RX1 51 yX6_ends ∈ gTs := gmem (i := 845) (by decide +kernel) (by decide +kernel)
theorem tw_801 : Cond.methodLink RX1 58 yX2_lead ∈ gTs := gmem (i := 846) (by decide +kernel) (by decide +kernel)
theorem tw_802 : Cond.methodLink RX1 61 yX1_greatestValue ∈ gTs := gmem (i := 847) (by decide +kernel) (by decide +kernel)
theorem tw_805 : Cond.code yX1_greatestValue cX1_greatestValue 7 (some .int) ∈ gTs := gmem (i := 850) (by decide +kernel) (by decide +kernel)
theorem td_yX1_greatestValue : gYd yX1_greatestValue 4 := by refine ⟨?_, ?_, ?_⟩ <;> decide +kernel
theorem tw_804 : Cond.instanceMethod yX1_greatestValue ∈ gTs := gmem (i := 849) (by decide +kernel) (by decide +kernel)
theorem tw_807 : Cond.methodLink RX1 72 yX1_leastValue ∈ gTs := gmem (i := 852) (by decide +kernel) (by decide +kernel)
theorem tw_808 : Cond.methodLink RX1 76 yJ9_max_7cf53 ∈ gTs := gmem (i := 853) (by decide +kernel) (by decide +kernel)
theorem tw_809 : Cond.methodLink RX1 65 yJ9_min_7cf53 ∈ gTs := gmem (i := 854) (by decide +kernel) (by decide +kernel)
theorem tw_811 : Cond.code yJ9_min_7cf53 cJ9_min_7cf53 2 (some .int) ∈ gTs := gmem (i := 856) (by decide +kernel) (by decide +kernel)
theorem td_yJ9_min_7cf53 : gYd yJ9_min_7cf53 2 := by refine ⟨?_, ?_, ?_⟩ <;> decide +kernel
theorem tw_810 : Cond.static yJ9_min_7cf53 ∈ gTs := gmem (i := 855) (by decide +kernel) (by decide +kernel)
theorem tw_815 : Cond.methodLink RL 77 yX7_best ∈ gTs := gmem (i := 860) (by decide +kernel) (by decide +kernel)
theorem tw_818 : Cond.code yX7_best cX7_best 8 (some .int) ∈ gTs := gmem (i := 863) (by decide +kernel) (by decide +kernel)
theorem td_yX7_best : gYd yX7_best 2 := by refine ⟨?_, ?_, ?_⟩ <;> decide +kernel
theorem tw_816 : Cond.instanceMethod yX7_best ∈ gTs := gmem (i := 861) (by decide +kernel) (by decide +kernel)
theorem tw_817 : Cond.selects RX7 yX7_best yX7_best ∈ gTs := gmem (i := 862) (by decide +kernel) (by decide +kernel)
theorem tw_824 : Cond.methodLink RL 80 yX7_report ∈ gTs := gmem (i := 869) (by decide +kernel) (by decide +kernel)
theorem tw_827 : Cond.code yX7_report cX7_report 3 (some .int) ∈ gTs := gmem (i := 872) (by decide +kernel) (by decide +kernel)
theorem td_yX7_report : gYd yX7_report 2 := by refine ⟨?_, ?_, ?_⟩ <;> decide +kernel
theorem tw_825 : Cond.instanceMethod yX7_report ∈ gTs := gmem (i := 870) (by decide +kernel) (by decide +kernel)
theorem tw_826 : Cond.selects RX7 yX7_report yX7_report ∈ gTs := gmem (i := 871) (by decide +kernel) (by decide +kernel)
theorem tw_832 : Cond.methodLink RL 83 yX7_feed ∈ gTs := gmem (i := 877) (by decide +kernel) (by decide +kernel)
theorem tw_835 : Cond.code yX7_feed cX7_feed 2 (some .int) ∈ gTs := gmem (i := 880) (by decide +kernel) (by decide +kernel)
theorem td_yX7_feed : gYd yX7_feed 1 := by refine ⟨?_, ?_, ?_⟩ <;> decide +kernel
theorem tw_833 : Cond.instanceMethod yX7_feed ∈ gTs := gmem (i := 878) (by decide +kernel) (by decide +kernel)
theorem tw_834 : Cond.selects RX7 yX7_feed yX7_feed ∈ gTs := gmem (i := 879) (by decide +kernel) (by decide +kernel)
theorem tw_836 : Cond.methodLink RX7 274 yX3_append ∈ gTs := gmem (i := 881) (by decide +kernel) (by decide +kernel)
theorem tw_839 : Cond.code yX3_append cX3_append 2 (some .boolean) ∈ gTs := gmem (i := 884) (by decide +kernel) (by decide +kernel)
theorem td_yX3_append : gYd yX3_append 1 := by refine ⟨?_, ?_, ?_⟩ <;> decide +kernel
theorem tw_837 : Cond.instanceMethod yX3_append ∈ gTs := gmem (i := 882) (by decide +kernel) (by decide +kernel)
theorem tw_838 : Cond.selects RX3 yX3_append yX3_append ∈ gTs := gmem (i := 883) (by decide +kernel) (by decide +kernel)
theorem tw_844 : Cond.methodLink RL 87 yX7_readRecord ∈ gTs := gmem (i := 889) (by decide +kernel) (by decide +kernel)
theorem tw_847 : Cond.code yX7_readRecord cX7_readRecord 6 (some .int) ∈ gTs := gmem (i := 892) (by decide +kernel) (by decide +kernel)
theorem td_yX7_readRecord : gYd yX7_readRecord 0 := by refine ⟨?_, ?_, ?_⟩ <;> decide +kernel
theorem tw_845 : Cond.instanceMethod yX7_readRecord ∈ gTs := gmem (i := 890) (by decide +kernel) (by decide +kernel)
theorem tw_846 : Cond.selects RX7 yX7_readRecord yX7_readRecord ∈ gTs := gmem (i := 891) (by decide +kernel) (by decide +kernel)
theorem tw_848 : Cond.methodLink RX7 283 yX3_parse ∈ gTs := gmem (i := 893) (by decide +kernel) (by decide +kernel)
theorem tw_851 : Cond.code yX3_parse cX3_parse 8 (some .int) ∈ gTs := gmem (i := 896) (by decide +kernel) (by decide +kernel)
theorem td_yX3_parse : gYd yX3_parse 1 := by refine ⟨?_, ?_, ?_⟩ <;> decide +kernel
theorem tw_849 : Cond.instanceMethod yX3_parse ∈ gTs := gmem (i := 894) (by decide +kernel) (by decide +kernel)
theorem tw_850 : Cond.selects RX3 yX3_parse yX3_parse ∈ gTs := gmem (i := 895) (by decide +kernel) (by decide +kernel)
theorem tw_852 : Cond.methodLink RX3 31 yX0_cellAt ∈ gTs := gmem (i := 897) (by decide +kernel) (by decide +kernel)
theorem tw_853 : Cond.methodLink RX3 35 yX3_addChoice ∈ gTs := gmem (i := 898) (by decide +kernel) (by decide +kernel)
theorem tw_856 : Cond.code yX3_addChoice cX3_addChoice 2 none ∈ gTs := gmem (i := 901) (by decide +kernel) (by decide +kernel)
theorem td_yX3_addChoice : gYd yX3_addChoice 1 := by refine ⟨?_, ?_, ?_⟩ <;> decide +kernel
theorem tw_855 : Cond.instanceMethod yX3_addChoice ∈ gTs := gmem (i := 900) (by decide +kernel) (by decide +kernel)
theorem tw_857 : Cond.methodLink RX7 290 yX3_choice ∈ gTs := gmem (i := 902) (by decide +kernel) (by decide +kernel)
theorem tw_860 : Cond.code yX3_choice cX3_choice 2 (some .int) ∈ gTs := gmem (i := 905) (by decide +kernel) (by decide +kernel)
theorem td_yX3_choice : gYd yX3_choice 1 := by refine ⟨?_, ?_, ?_⟩ <;> decide +kernel
theorem tw_858 : Cond.instanceMethod yX3_choice ∈ gTs := gmem (i := 903) (by decide +kernel) (by decide +kernel)
theorem tw_859 : Cond.selects RX3 yX3_choice yX3_choice ∈ gTs := gmem (i := 904) (by decide +kernel) (by decide +kernel)
theorem tw_865 : Cond.methodLink RL 90 yX7_written ∈ gTs := gmem (i := 910) (by decide +kernel) (by decide +kernel)
theorem tw_868 : Cond.code yX7_written cX7_written 5 (some .char) ∈ gTs := gmem (i := 913) (by decide +kernel) (by decide +kernel)
theorem td_yX7_written : gYd yX7_written 1 := by refine ⟨?_, ?_, ?_⟩ <;> decide +kernel
theorem tw_866 : Cond.instanceMethod yX7_written ∈ gTs := gmem (i := 911) (by decide +kernel) (by decide +kernel)
theorem tw_867 : Cond.selects RX7 yX7_written yX7_written ∈ gTs := gmem (i := 912) (by decide +kernel) (by decide +kernel)
theorem tw_869 : Cond.methodLink RX7 293 yX6_signs ∈ gTs := gmem (i := 914) (by decide +kernel) (by decide +kernel)
theorem tw_872 : Cond.code yX6_signs cX6_signs 1 (some .int) ∈ gTs := gmem (i := 917) (by decide +kernel) (by decide +kernel)
theorem td_yX6_signs : gYd yX6_signs 0 := by refine ⟨?_, ?_, ?_⟩ <;> decide +kernel
theorem tw_870 : Cond.instanceMethod yX6_signs ∈ gTs := gmem (i := 915) (by decide +kernel) (by decide +kernel)
theorem tw_871 : Cond.selects RX6 yX6_signs yX6_signs ∈ gTs := gmem (i := 916) (by decide +kernel) (by decide +kernel)
theorem tw_873 : Cond.methodLink RX6 71 yX6_signsOf ∈ gTs := gmem (i := 918) (by decide +kernel) (by decide +kernel)
theorem tw_875 : Cond.code yX6_signsOf cX6_signsOf 1 (some .int) ∈ gTs := gmem (i := 920) (by decide +kernel) (by decide +kernel)
theorem td_yX6_signsOf : gYd yX6_signsOf 1 := by refine ⟨?_, ?_, ?_⟩ <;> decide +kernel
theorem tw_874 : Cond.static yX6_signsOf ∈ gTs := gmem (i := 919) (by decide +kernel) (by decide +kernel)
theorem tw_876 : Cond.methodLink RX7 296 yX6_sign ∈ gTs := gmem (i := 921) (by decide +kernel) (by decide +kernel)
theorem tw_879 : Cond.code yX6_sign cX6_sign 4 (some .char) ∈ gTs := gmem (i := 924) (by decide +kernel) (by decide +kernel)
theorem td_yX6_sign : gYd yX6_sign 2 := by refine ⟨?_, ?_, ?_⟩ <;> decide +kernel
theorem tw_877 : Cond.instanceMethod yX6_sign ∈ gTs := gmem (i := 922) (by decide +kernel) (by decide +kernel)
theorem tw_878 : Cond.selects RX6 yX6_sign yX6_sign ∈ gTs := gmem (i := 923) (by decide +kernel) (by decide +kernel)
theorem tw_880 : Cond.methodLink RX6 74 yX6_signOf ∈ gTs := gmem (i := 925) (by decide +kernel) (by decide +kernel)
theorem tw_882 : Cond.code yX6_signOf cX6_signOf 4 (some .char) ∈ gTs := gmem (i := 927) (by decide +kernel) (by decide +kernel)
theorem td_yX6_signOf : gYd yX6_signOf 3 := by refine ⟨?_, ?_, ?_⟩ <;> decide +kernel
theorem tw_881 : Cond.static yX6_signOf ∈ gTs := gmem (i := 926) (by decide +kernel) (by decide +kernel)
theorem tw_883 : Cond.methodLink RX6 78 yX0_columnOf ∈ gTs := gmem (i := 928) (by decide +kernel) (by decide +kernel)
theorem tw_886 : Cond.code yX0_columnOf cX0_columnOf 2 (some .int) ∈ gTs := gmem (i := 931) (by decide +kernel) (by decide +kernel)
theorem td_yX0_columnOf : gYd yX0_columnOf 1 := by refine ⟨?_, ?_, ?_⟩ <;> decide +kernel
theorem tw_884 : Cond.instanceMethod yX0_columnOf ∈ gTs := gmem (i := 929) (by decide +kernel) (by decide +kernel)
theorem tw_885 : Cond.selects RX0 yX0_columnOf yX0_columnOf ∈ gTs := gmem (i := 930) (by decide +kernel) (by decide +kernel)
theorem tw_887 : Cond.methodLink RX0 32 yX0_rowOf ∈ gTs := gmem (i := 932) (by decide +kernel) (by decide +kernel)
theorem tw_890 : Cond.code yX0_rowOf cX0_rowOf 2 (some .int) ∈ gTs := gmem (i := 935) (by decide +kernel) (by decide +kernel)
theorem td_yX0_rowOf : gYd yX0_rowOf 1 := by refine ⟨?_, ?_, ?_⟩ <;> decide +kernel
theorem tw_888 : Cond.instanceMethod yX0_rowOf ∈ gTs := gmem (i := 933) (by decide +kernel) (by decide +kernel)
theorem tw_889 : Cond.selects RX0 yX0_rowOf yX0_rowOf ∈ gTs := gmem (i := 934) (by decide +kernel) (by decide +kernel)
theorem tw_891 : Cond.methodLink RX6 83 yX0_rowOf ∈ gTs := gmem (i := 936) (by decide +kernel) (by decide +kernel)
theorem tw_896 : Cond.methodLink RL 94 yX7_restore ∈ gTs := gmem (i := 941) (by decide +kernel) (by decide +kernel)
theorem tw_899 : Cond.code yX7_restore cX7_restore 1 (some .int) ∈ gTs := gmem (i := 944) (by decide +kernel) (by decide +kernel)
theorem td_yX7_restore : gYd yX7_restore 0 := by refine ⟨?_, ?_, ?_⟩ <;> decide +kernel
theorem tw_897 : Cond.instanceMethod yX7_restore ∈ gTs := gmem (i := 942) (by decide +kernel) (by decide +kernel)
theorem tw_898 : Cond.selects RX7 yX7_restore yX7_restore ∈ gTs := gmem (i := 943) (by decide +kernel) (by decide +kernel)
theorem tw_903 : Cond.methodLink RL 100 yX8_init ∈ gTs := gmem (i := 948) (by decide +kernel) (by decide +kernel)
theorem tw_905 : Cond.code yX8_init cX8_init 1 none ∈ gTs := gmem (i := 950) (by decide +kernel) (by decide +kernel)
theorem td_yX8_init : gYd yX8_init 0 := by refine ⟨?_, ?_, ?_⟩ <;> decide +kernel
theorem tw_904 : Cond.instanceMethod yX8_init ∈ gTs := gmem (i := 949) (by decide +kernel) (by decide +kernel)
theorem tw_906 : Cond.methodLink RX8 3 objectInit ∈ gTs := gmem (i := 951) (by decide +kernel) (by decide +kernel)
theorem tw_907 : Cond.methodLink RX8 69 yX8_begins ∈ gTs := gmem (i := 952) (by decide +kernel) (by decide +kernel)
theorem tw_910 : Cond.code yX8_begins cX8_begins 5 none ∈ gTs := gmem (i := 955) (by decide +kernel) (by decide +kernel)
theorem td_yX8_begins : gYd yX8_begins 1 := by refine ⟨?_, ?_, ?_⟩ <;> decide +kernel
theorem tw_909 : Cond.instanceMethod yX8_begins ∈ gTs := gmem (i := 954) (by decide +kernel) (by decide +kernel)
theorem tw_1011 : Cond.methodLink RL 107 yX8_thrown ∈ gTs := gmem (i := 1056) (by decide +kernel) (by decide +kernel)
theorem tw_1014 : Cond.code yX8_thrown cX8_thrown 1 (some .int) ∈ gTs := gmem (i := 1059) (by decide +kernel) (by decide +kernel)
theorem td_yX8_thrown : gYd yX8_thrown 0 := by refine ⟨?_, ?_, ?_⟩ <;> decide +kernel
theorem tw_1012 : Cond.instanceMethod yX8_thrown ∈ gTs := gmem (i := 1057) (by decide +kernel) (by decide +kernel)
theorem tw_1013 : Cond.selects RX8 yX8_thrown yX8_thrown ∈ gTs := gmem (i := 1058) (by decide +kernel) (by decide +kernel)
theorem tw_1015 : Cond.methodLink RL 106 yX8_start ∈ gTs := gmem (i := 1060) (by decide +kernel) (by decide +kernel)
theorem tw_1018 : Cond.code yX8_start cX8_start 4 (some .int) ∈ gTs := gmem (i := 1063) (by decide +kernel) (by decide +kernel)
theorem td_yX8_start : gYd yX8_start 3 := by refine ⟨?_, ?_, ?_⟩ <;> decide +kernel
theorem tw_1016 : Cond.instanceMethod yX8_start ∈ gTs := gmem (i := 1061) (by decide +kernel) (by decide +kernel)
theorem tw_1017 : Cond.selects RX8 yX8_start yX8_start ∈ gTs := gmem (i := 1062) (by decide +kernel) (by decide +kernel)
theorem tw_1019 : Cond.methodLink RX8 80 yX8_isIn ∈ gTs := gmem (i := 1064) (by decide +kernel) (by decide +kernel)
theorem tw_1021 : Cond.code yX8_isIn cX8_isIn 3 (some .boolean) ∈ gTs := gmem (i := 1066) (by decide +kernel) (by decide +kernel)
theorem td_yX8_isIn : gYd yX8_isIn 3 := by refine ⟨?_, ?_, ?_⟩ <;> decide +kernel
theorem tw_1020 : Cond.static yX8_isIn ∈ gTs := gmem (i := 1065) (by decide +kernel) (by decide +kernel)
theorem tw_1022 : Cond.methodLink RX8 84 yX8_many ∈ gTs := gmem (i := 1067) (by decide +kernel) (by decide +kernel)
theorem tw_1025 : Cond.code yX8_many cX8_many 4 (some .int) ∈ gTs := gmem (i := 1070) (by decide +kernel) (by decide +kernel)
theorem td_yX8_many : gYd yX8_many 1 := by refine ⟨?_, ?_, ?_⟩ <;> decide +kernel
theorem tw_1024 : Cond.instanceMethod yX8_many ∈ gTs := gmem (i := 1069) (by decide +kernel) (by decide +kernel)
theorem tw_1026 : Cond.methodLink RX8 76 yX8_cells ∈ gTs := gmem (i := 1071) (by decide +kernel) (by decide +kernel)
theorem tw_1029 : Cond.code yX8_cells cX8_cells 1 (some .int) ∈ gTs := gmem (i := 1074) (by decide +kernel) (by decide +kernel)
theorem td_yX8_cells : gYd yX8_cells 0 := by refine ⟨?_, ?_, ?_⟩ <;> decide +kernel
theorem tw_1028 : Cond.instanceMethod yX8_cells ∈ gTs := gmem (i := 1073) (by decide +kernel) (by decide +kernel)
theorem tw_1030 : Cond.methodLink RL 113 yX8_setRule ∈ gTs := gmem (i := 1075) (by decide +kernel) (by decide +kernel)
theorem tw_1033 : Cond.code yX8_setRule cX8_setRule 3 (some .int) ∈ gTs := gmem (i := 1078) (by decide +kernel) (by decide +kernel)
theorem td_yX8_setRule : gYd yX8_setRule 1 := by refine ⟨?_, ?_, ?_⟩ <;> decide +kernel
theorem tw_1031 : Cond.instanceMethod yX8_setRule ∈ gTs := gmem (i := 1076) (by decide +kernel) (by decide +kernel)
theorem tw_1032 : Cond.selects RX8 yX8_setRule yX8_setRule ∈ gTs := gmem (i := 1077) (by decide +kernel) (by decide +kernel)
theorem tw_1034 : Cond.methodLink RL 117 yX8_setBonus ∈ gTs := gmem (i := 1079) (by decide +kernel) (by decide +kernel)
theorem tw_1037 : Cond.code yX8_setBonus cX8_setBonus 4 (some .int) ∈ gTs := gmem (i := 1082) (by decide +kernel) (by decide +kernel)
theorem td_yX8_setBonus : gYd yX8_setBonus 2 := by refine ⟨?_, ?_, ?_⟩ <;> decide +kernel
theorem tw_1035 : Cond.instanceMethod yX8_setBonus ∈ gTs := gmem (i := 1080) (by decide +kernel) (by decide +kernel)
theorem tw_1036 : Cond.selects RX8 yX8_setBonus yX8_setBonus ∈ gTs := gmem (i := 1081) (by decide +kernel) (by decide +kernel)
theorem tw_1038 : Cond.methodLink RL 120 yX8_play ∈ gTs := gmem (i := 1083) (by decide +kernel) (by decide +kernel)
theorem tw_1041 : Cond.code yX8_play cX8_play 3 (some .int) ∈ gTs := gmem (i := 1086) (by decide +kernel) (by decide +kernel)
theorem td_yX8_play : gYd yX8_play 2 := by refine ⟨?_, ?_, ?_⟩ <;> decide +kernel
theorem tw_1039 : Cond.instanceMethod yX8_play ∈ gTs := gmem (i := 1084) (by decide +kernel) (by decide +kernel)
theorem tw_1040 : Cond.selects RX8 yX8_play yX8_play ∈ gTs := gmem (i := 1085) (by decide +kernel) (by decide +kernel)
theorem tw_1042 : Cond.methodLink RX8 167 yX8_isChoice ∈ gTs := gmem (i := 1087) (by decide +kernel) (by decide +kernel)
theorem tw_1045 : Cond.code yX8_isChoice cX8_isChoice 2 (some .boolean) ∈ gTs := gmem (i := 1090) (by decide +kernel) (by decide +kernel)
theorem td_yX8_isChoice : gYd yX8_isChoice 1 := by refine ⟨?_, ?_, ?_⟩ <;> decide +kernel
theorem tw_1044 : Cond.instanceMethod yX8_isChoice ∈ gTs := gmem (i := 1089) (by decide +kernel) (by decide +kernel)
theorem tw_1046 : Cond.methodLink RX8 150 yX8_isCell ∈ gTs := gmem (i := 1091) (by decide +kernel) (by decide +kernel)
theorem tw_1049 : Cond.code yX8_isCell cX8_isCell 2 (some .boolean) ∈ gTs := gmem (i := 1094) (by decide +kernel) (by decide +kernel)
theorem td_yX8_isCell : gYd yX8_isCell 1 := by refine ⟨?_, ?_, ?_⟩ <;> decide +kernel
theorem tw_1048 : Cond.instanceMethod yX8_isCell ∈ gTs := gmem (i := 1093) (by decide +kernel) (by decide +kernel)
theorem tw_1050 : Cond.methodLink RX8 170 yX8_over ∈ gTs := gmem (i := 1095) (by decide +kernel) (by decide +kernel)
theorem tw_1053 : Cond.code yX8_over cX8_over 1 (some .boolean) ∈ gTs := gmem (i := 1098) (by decide +kernel) (by decide +kernel)
theorem td_yX8_over : gYd yX8_over 0 := by refine ⟨?_, ?_, ?_⟩ <;> decide +kernel
theorem tw_1052 : Cond.instanceMethod yX8_over ∈ gTs := gmem (i := 1097) (by decide +kernel) (by decide +kernel)
theorem tw_1054 : Cond.methodLink RX8 108 yX8_emptyCells ∈ gTs := gmem (i := 1099) (by decide +kernel) (by decide +kernel)
theorem tw_1057 : Cond.code yX8_emptyCells cX8_emptyCells 1 (some .int) ∈ gTs := gmem (i := 1102) (by decide +kernel) (by decide +kernel)
theorem td_yX8_emptyCells : gYd yX8_emptyCells 0 := by refine ⟨?_, ?_, ?_⟩ <;> decide +kernel
theorem tw_1056 : Cond.instanceMethod yX8_emptyCells ∈ gTs := gmem (i := 1101) (by decide +kernel) (by decide +kernel)
theorem tw_1058 : Cond.methodLink RX8 174 yX8_goes ∈ gTs := gmem (i := 1103) (by decide +kernel) (by decide +kernel)
theorem tw_1061 : Cond.code yX8_goes cX8_goes 6 (some .boolean) ∈ gTs := gmem (i := 1106) (by decide +kernel) (by decide +kernel)
theorem td_yX8_goes : gYd yX8_goes 2 := by refine ⟨?_, ?_, ?_⟩ <;> decide +kernel
theorem tw_1060 : Cond.instanceMethod yX8_goes ∈ gTs := gmem (i := 1105) (by decide +kernel) (by decide +kernel)
theorem tw_1062 : Cond.methodLink RX8 157 yX8_mayChoose ∈ gTs := gmem (i := 1107) (by decide +kernel) (by decide +kernel)
theorem tw_1065 : Cond.code yX8_mayChoose cX8_mayChoose 2 (some .boolean) ∈ gTs := gmem (i := 1110) (by decide +kernel) (by decide +kernel)
theorem td_yX8_mayChoose : gYd yX8_mayChoose 1 := by refine ⟨?_, ?_, ?_⟩ <;> decide +kernel
theorem tw_1064 : Cond.instanceMethod yX8_mayChoose ∈ gTs := gmem (i := 1109) (by decide +kernel) (by decide +kernel)
theorem tw_1066 : Cond.methodLink RX8 160 yX8_reports ∈ gTs := gmem (i := 1111) (by decide +kernel) (by decide +kernel)
theorem tw_1069 : Cond.code yX8_reports cX8_reports 3 none ∈ gTs := gmem (i := 1114) (by decide +kernel) (by decide +kernel)
theorem td_yX8_reports : gYd yX8_reports 2 := by refine ⟨?_, ?_, ?_⟩ <;> decide +kernel
theorem tw_1068 : Cond.instanceMethod yX8_reports ∈ gTs := gmem (i := 1113) (by decide +kernel) (by decide +kernel)
theorem tw_1070 : Cond.methodLink RX8 164 yX8_plays ∈ gTs := gmem (i := 1115) (by decide +kernel) (by decide +kernel)
theorem tw_1073 : Cond.code yX8_plays cX8_plays 5 none ∈ gTs := gmem (i := 1118) (by decide +kernel) (by decide +kernel)
theorem td_yX8_plays : gYd yX8_plays 2 := by refine ⟨?_, ?_, ?_⟩ <;> decide +kernel
theorem tw_1072 : Cond.instanceMethod yX8_plays ∈ gTs := gmem (i := 1117) (by decide +kernel) (by decide +kernel)
theorem tw_1074 : Cond.methodLink RX8 138 yX8_score ∈ gTs := gmem (i := 1119) (by decide +kernel) (by decide +kernel)
theorem tw_1077 : Cond.code yX8_score cX8_score 2 (some .int) ∈ gTs := gmem (i := 1122) (by decide +kernel) (by decide +kernel)
theorem td_yX8_score : gYd yX8_score 1 := by refine ⟨?_, ?_, ?_⟩ <;> decide +kernel
theorem tw_1076 : Cond.instanceMethod yX8_score ∈ gTs := gmem (i := 1121) (by decide +kernel) (by decide +kernel)
theorem tw_1078 : Cond.methodLink RX8 131 yX8_becomes ∈ gTs := gmem (i := 1123) (by decide +kernel) (by decide +kernel)
theorem tw_1081 : Cond.code yX8_becomes cX8_becomes 4 none ∈ gTs := gmem (i := 1126) (by decide +kernel) (by decide +kernel)
theorem td_yX8_becomes : gYd yX8_becomes 3 := by refine ⟨?_, ?_, ?_⟩ <;> decide +kernel
theorem tw_1080 : Cond.instanceMethod yX8_becomes ∈ gTs := gmem (i := 1125) (by decide +kernel) (by decide +kernel)
theorem tw_1082 : Cond.methodLink RX8 147 yX8_wave ∈ gTs := gmem (i := 1127) (by decide +kernel) (by decide +kernel)
theorem tw_1085 : Cond.code yX8_wave cX8_wave 7 (some .int) ∈ gTs := gmem (i := 1130) (by decide +kernel) (by decide +kernel)
theorem td_yX8_wave : gYd yX8_wave 1 := by refine ⟨?_, ?_, ?_⟩ <;> decide +kernel
theorem tw_1084 : Cond.instanceMethod yX8_wave ∈ gTs := gmem (i := 1129) (by decide +kernel) (by decide +kernel)
theorem tw_1086 : Cond.methodLink RX8 128 yX8_encloses ∈ gTs := gmem (i := 1131) (by decide +kernel) (by decide +kernel)
theorem tw_1089 : Cond.code yX8_encloses cX8_encloses 10 none ∈ gTs := gmem (i := 1134) (by decide +kernel) (by decide +kernel)
theorem td_yX8_encloses : gYd yX8_encloses 1 := by refine ⟨?_, ?_, ?_⟩ <;> decide +kernel
theorem tw_1088 : Cond.instanceMethod yX8_encloses ∈ gTs := gmem (i := 1133) (by decide +kernel) (by decide +kernel)
theorem tw_1090 : Cond.methodLink RX8 111 yX8_outside ∈ gTs := gmem (i := 1135) (by decide +kernel) (by decide +kernel)
theorem tw_1093 : Cond.code yX8_outside cX8_outside 2 (some .long) ∈ gTs := gmem (i := 1138) (by decide +kernel) (by decide +kernel)
theorem td_yX8_outside : gYd yX8_outside 1 := by refine ⟨?_, ?_, ?_⟩ <;> decide +kernel
theorem tw_1092 : Cond.instanceMethod yX8_outside ∈ gTs := gmem (i := 1137) (by decide +kernel) (by decide +kernel)
theorem tw_1094 : Cond.methodLink RX8 97 yX8_all ∈ gTs := gmem (i := 1139) (by decide +kernel) (by decide +kernel)
theorem tw_1097 : Cond.code yX8_all cX8_all 1 (some .long) ∈ gTs := gmem (i := 1142) (by decide +kernel) (by decide +kernel)
theorem td_yX8_all : gYd yX8_all 0 := by refine ⟨?_, ?_, ?_⟩ <;> decide +kernel
theorem tw_1096 : Cond.instanceMethod yX8_all ∈ gTs := gmem (i := 1141) (by decide +kernel) (by decide +kernel)
theorem tw_1098 : Cond.methodLink RX8 105 yX8_bits ∈ gTs := gmem (i := 1143) (by decide +kernel) (by decide +kernel)
theorem tw_1101 : Cond.code yX8_bits cX8_bits 5 (some .long) ∈ gTs := gmem (i := 1146) (by decide +kernel) (by decide +kernel)
theorem td_yX8_bits : gYd yX8_bits 1 := by refine ⟨?_, ?_, ?_⟩ <;> decide +kernel
theorem tw_1100 : Cond.instanceMethod yX8_bits ∈ gTs := gmem (i := 1145) (by decide +kernel) (by decide +kernel)
theorem tw_1103 : Cond.methodLink RX8 114 yX8_edge ∈ gTs := gmem (i := 1148) (by decide +kernel) (by decide +kernel)
theorem tw_1106 : Cond.code yX8_edge cX8_edge 3 (some .long) ∈ gTs := gmem (i := 1151) (by decide +kernel) (by decide +kernel)
theorem td_yX8_edge : gYd yX8_edge 0 := by refine ⟨?_, ?_, ?_⟩ <;> decide +kernel
theorem tw_1105 : Cond.instanceMethod yX8_edge ∈ gTs := gmem (i := 1150) (by decide +kernel) (by decide +kernel)
theorem tw_1107 : Cond.methodLink RX8 91 yX8_column ∈ gTs := gmem (i := 1152) (by decide +kernel) (by decide +kernel)
theorem tw_1110 : Cond.code yX8_column cX8_column 5 (some .long) ∈ gTs := gmem (i := 1155) (by decide +kernel) (by decide +kernel)
theorem td_yX8_column : gYd yX8_column 1 := by refine ⟨?_, ?_, ?_⟩ <;> decide +kernel
theorem tw_1109 : Cond.instanceMethod yX8_column ∈ gTs := gmem (i := 1154) (by decide +kernel) (by decide +kernel)
theorem tw_1111 : Cond.methodLink RX8 117 yX8_lowest ∈ gTs := gmem (i := 1156) (by decide +kernel) (by decide +kernel)
theorem tw_1113 : Cond.code yX8_lowest cX8_lowest 3 (some .int) ∈ gTs := gmem (i := 1158) (by decide +kernel) (by decide +kernel)
theorem td_yX8_lowest : gYd yX8_lowest 1 := by refine ⟨?_, ?_, ?_⟩ <;> decide +kernel
theorem tw_1112 : Cond.static yX8_lowest ∈ gTs := gmem (i := 1157) (by decide +kernel) (by decide +kernel)
theorem tw_1114 : Cond.methodLink RX8 121 yX8_connected ∈ gTs := gmem (i := 1159) (by decide +kernel) (by decide +kernel)
theorem tw_1117 : Cond.code yX8_connected cX8_connected 8 (some .long) ∈ gTs := gmem (i := 1162) (by decide +kernel) (by decide +kernel)
theorem td_yX8_connected : gYd yX8_connected 2 := by refine ⟨?_, ?_, ?_⟩ <;> decide +kernel
theorem tw_1116 : Cond.instanceMethod yX8_connected ∈ gTs := gmem (i := 1161) (by decide +kernel) (by decide +kernel)
theorem tw_1118 : Cond.methodLink RX8 101 yX8_grown ∈ gTs := gmem (i := 1163) (by decide +kernel) (by decide +kernel)
theorem tw_1121 : Cond.code yX8_grown cX8_grown 3 (some .long) ∈ gTs := gmem (i := 1166) (by decide +kernel) (by decide +kernel)
theorem td_yX8_grown : gYd yX8_grown 1 := by refine ⟨?_, ?_, ?_⟩ <;> decide +kernel
theorem tw_1120 : Cond.instanceMethod yX8_grown ∈ gTs := gmem (i := 1165) (by decide +kernel) (by decide +kernel)
theorem tw_1122 : Cond.methodLink RX8 125 yX8_size ∈ gTs := gmem (i := 1167) (by decide +kernel) (by decide +kernel)
theorem tw_1124 : Cond.code yX8_size cX8_size 4 (some .int) ∈ gTs := gmem (i := 1169) (by decide +kernel) (by decide +kernel)
theorem td_yX8_size : gYd yX8_size 1 := by refine ⟨?_, ?_, ?_⟩ <;> decide +kernel
theorem tw_1123 : Cond.static yX8_size ∈ gTs := gmem (i := 1168) (by decide +kernel) (by decide +kernel)
theorem tw_1125 : Cond.methodLink RX8 178 yX8_no ∈ gTs := gmem (i := 1170) (by decide +kernel) (by decide +kernel)
theorem tw_1128 : Cond.code yX8_no cX8_no 2 (some .int) ∈ gTs := gmem (i := 1173) (by decide +kernel) (by decide +kernel)
theorem td_yX8_no : gYd yX8_no 1 := by refine ⟨?_, ?_, ?_⟩ <;> decide +kernel
theorem tw_1127 : Cond.instanceMethod yX8_no ∈ gTs := gmem (i := 1172) (by decide +kernel) (by decide +kernel)
theorem tw_1129 : Cond.methodLink RL 124 yX8_undo ∈ gTs := gmem (i := 1174) (by decide +kernel) (by decide +kernel)
theorem tw_1132 : Cond.code yX8_undo cX8_undo 3 (some .int) ∈ gTs := gmem (i := 1177) (by decide +kernel) (by decide +kernel)
theorem td_yX8_undo : gYd yX8_undo 0 := by refine ⟨?_, ?_, ?_⟩ <;> decide +kernel
theorem tw_1130 : Cond.instanceMethod yX8_undo ∈ gTs := gmem (i := 1175) (by decide +kernel) (by decide +kernel)
theorem tw_1131 : Cond.selects RX8 yX8_undo yX8_undo ∈ gTs := gmem (i := 1176) (by decide +kernel) (by decide +kernel)
theorem tw_1133 : Cond.methodLink RL 129 yX8_isOver ∈ gTs := gmem (i := 1178) (by decide +kernel) (by decide +kernel)
theorem tw_1136 : Cond.code yX8_isOver cX8_isOver 1 (some .boolean) ∈ gTs := gmem (i := 1181) (by decide +kernel) (by decide +kernel)
theorem td_yX8_isOver : gYd yX8_isOver 0 := by refine ⟨?_, ?_, ?_⟩ <;> decide +kernel
theorem tw_1134 : Cond.instanceMethod yX8_isOver ∈ gTs := gmem (i := 1179) (by decide +kernel) (by decide +kernel)
theorem tw_1135 : Cond.selects RX8 yX8_isOver yX8_isOver ∈ gTs := gmem (i := 1180) (by decide +kernel) (by decide +kernel)
theorem tw_1137 : Cond.methodLink RL 132 yX8_cell ∈ gTs := gmem (i := 1182) (by decide +kernel) (by decide +kernel)
theorem tw_1140 : Cond.code yX8_cell cX8_cell 3 (some .int) ∈ gTs := gmem (i := 1185) (by decide +kernel) (by decide +kernel)
theorem td_yX8_cell : gYd yX8_cell 2 := by refine ⟨?_, ?_, ?_⟩ <;> decide +kernel
theorem tw_1138 : Cond.instanceMethod yX8_cell ∈ gTs := gmem (i := 1183) (by decide +kernel) (by decide +kernel)
theorem tw_1139 : Cond.selects RX8 yX8_cell yX8_cell ∈ gTs := gmem (i := 1184) (by decide +kernel) (by decide +kernel)
theorem tw_1141 : Cond.methodLink RL 135 yX8_since ∈ gTs := gmem (i := 1186) (by decide +kernel) (by decide +kernel)
theorem tw_1144 : Cond.code yX8_since cX8_since 3 (some .int) ∈ gTs := gmem (i := 1189) (by decide +kernel) (by decide +kernel)
theorem td_yX8_since : gYd yX8_since 2 := by refine ⟨?_, ?_, ?_⟩ <;> decide +kernel
theorem tw_1142 : Cond.instanceMethod yX8_since ∈ gTs := gmem (i := 1187) (by decide +kernel) (by decide +kernel)
theorem tw_1143 : Cond.selects RX8 yX8_since yX8_since ∈ gTs := gmem (i := 1188) (by decide +kernel) (by decide +kernel)
theorem tw_1145 : Cond.methodLink RL 138 yX8_count ∈ gTs := gmem (i := 1190) (by decide +kernel) (by decide +kernel)
theorem tw_1148 : Cond.code yX8_count cX8_count 2 (some .int) ∈ gTs := gmem (i := 1193) (by decide +kernel) (by decide +kernel)
theorem td_yX8_count : gYd yX8_count 1 := by refine ⟨?_, ?_, ?_⟩ <;> decide +kernel
theorem tw_1146 : Cond.instanceMethod yX8_count ∈ gTs := gmem (i := 1191) (by decide +kernel) (by decide +kernel)
theorem tw_1147 : Cond.selects RX8 yX8_count yX8_count ∈ gTs := gmem (i := 1192) (by decide +kernel) (by decide +kernel)
theorem tw_1149 : Cond.methodLink RL 141 yX8_player ∈ gTs := gmem (i := 1194) (by decide +kernel) (by decide +kernel)
theorem tw_1152 : Cond.code yX8_player cX8_player 3 (some .int) ∈ gTs := gmem (i := 1197) (by decide +kernel) (by decide +kernel)
theorem td_yX8_player : gYd yX8_player 2 := by refine ⟨?_, ?_, ?_⟩ <;> decide +kernel
theorem tw_1150 : Cond.instanceMethod yX8_player ∈ gTs := gmem (i := 1195) (by decide +kernel) (by decide +kernel)
theorem tw_1151 : Cond.selects RX8 yX8_player yX8_player ∈ gTs := gmem (i := 1196) (by decide +kernel) (by decide +kernel)
theorem tw_1153 : Cond.methodLink RX8 181 yX8_regions ∈ gTs := gmem (i := 1198) (by decide +kernel) (by decide +kernel)
theorem tw_1156 : Cond.code yX8_regions cX8_regions 9 (some .int) ∈ gTs := gmem (i := 1201) (by decide +kernel) (by decide +kernel)
theorem td_yX8_regions : gYd yX8_regions 2 := by refine ⟨?_, ?_, ?_⟩ <;> decide +kernel
theorem tw_1155 : Cond.instanceMethod yX8_regions ∈ gTs := gmem (i := 1200) (by decide +kernel) (by decide +kernel)
theorem tw_1157 : Cond.methodLink RL 144 yX8_region ∈ gTs := gmem (i := 1202) (by decide +kernel) (by decide +kernel)
theorem tw_1160 : Cond.code yX8_region cX8_region 3 (some .long) ∈ gTs := gmem (i := 1205) (by decide +kernel) (by decide +kernel)
theorem td_yX8_region : gYd yX8_region 2 := by refine ⟨?_, ?_, ?_⟩ <;> decide +kernel
theorem tw_1158 : Cond.instanceMethod yX8_region ∈ gTs := gmem (i := 1203) (by decide +kernel) (by decide +kernel)
theorem tw_1159 : Cond.selects RX8 yX8_region yX8_region ∈ gTs := gmem (i := 1204) (by decide +kernel) (by decide +kernel)
theorem tw_1161 : Cond.methodLink RX8 185 yX8_isOutside ∈ gTs := gmem (i := 1206) (by decide +kernel) (by decide +kernel)
theorem tw_1164 : Cond.code yX8_isOutside cX8_isOutside 3 (some .boolean) ∈ gTs := gmem (i := 1209) (by decide +kernel) (by decide +kernel)
theorem td_yX8_isOutside : gYd yX8_isOutside 2 := by refine ⟨?_, ?_, ?_⟩ <;> decide +kernel
theorem tw_1163 : Cond.instanceMethod yX8_isOutside ∈ gTs := gmem (i := 1208) (by decide +kernel) (by decide +kernel)
theorem tw_1165 : Cond.methodLink RL 147 yX8_cells_ ∈ gTs := gmem (i := 1210) (by decide +kernel) (by decide +kernel)
theorem tw_1168 : Cond.code yX8_cells_ cX8_cells_ 2 (some .long) ∈ gTs := gmem (i := 1213) (by decide +kernel) (by decide +kernel)
theorem td_yX8_cells_ : gYd yX8_cells_ 1 := by refine ⟨?_, ?_, ?_⟩ <;> decide +kernel
theorem tw_1166 : Cond.instanceMethod yX8_cells_ ∈ gTs := gmem (i := 1211) (by decide +kernel) (by decide +kernel)
theorem tw_1167 : Cond.selects RX8 yX8_cells_ yX8_cells_ ∈ gTs := gmem (i := 1212) (by decide +kernel) (by decide +kernel)
theorem tw_1169 : Cond.methodLink RL 150 yX8_chain ∈ gTs := gmem (i := 1214) (by decide +kernel) (by decide +kernel)
theorem tw_1172 : Cond.code yX8_chain cX8_chain 2 (some .long) ∈ gTs := gmem (i := 1217) (by decide +kernel) (by decide +kernel)
theorem td_yX8_chain : gYd yX8_chain 1 := by refine ⟨?_, ?_, ?_⟩ <;> decide +kernel
theorem tw_1170 : Cond.instanceMethod yX8_chain ∈ gTs := gmem (i := 1215) (by decide +kernel) (by decide +kernel)
theorem tw_1171 : Cond.selects RX8 yX8_chain yX8_chain ∈ gTs := gmem (i := 1216) (by decide +kernel) (by decide +kernel)
theorem tw_1173 : Cond.methodLink RL 153 yX8_stonesToEnclose ∈ gTs := gmem (i := 1218) (by decide +kernel) (by decide +kernel)
theorem tw_1176 : Cond.code yX8_stonesToEnclose cX8_stonesToEnclose 10 (some .int) ∈ gTs := gmem (i := 1221) (by decide +kernel) (by decide +kernel)
theorem td_yX8_stonesToEnclose : gYd yX8_stonesToEnclose 2 := by refine ⟨?_, ?_, ?_⟩ <;> decide +kernel
theorem tw_1174 : Cond.instanceMethod yX8_stonesToEnclose ∈ gTs := gmem (i := 1219) (by decide +kernel) (by decide +kernel)
theorem tw_1175 : Cond.selects RX8 yX8_stonesToEnclose yX8_stonesToEnclose ∈ gTs := gmem (i := 1220) (by decide +kernel) (by decide +kernel)
theorem tw_1177 : Cond.methodLink RX8 188 yX8_isEnclosed ∈ gTs := gmem (i := 1222) (by decide +kernel) (by decide +kernel)
theorem tw_1180 : Cond.code yX8_isEnclosed cX8_isEnclosed 4 (some .boolean) ∈ gTs := gmem (i := 1225) (by decide +kernel) (by decide +kernel)
theorem td_yX8_isEnclosed : gYd yX8_isEnclosed 2 := by refine ⟨?_, ?_, ?_⟩ <;> decide +kernel
theorem tw_1179 : Cond.instanceMethod yX8_isEnclosed ∈ gTs := gmem (i := 1224) (by decide +kernel) (by decide +kernel)
theorem tw_1181 : Cond.methodLink RL 157 yX8_share ∈ gTs := gmem (i := 1226) (by decide +kernel) (by decide +kernel)
theorem tw_1184 : Cond.code yX8_share cX8_share 2 (some .double) ∈ gTs := gmem (i := 1229) (by decide +kernel) (by decide +kernel)
theorem td_yX8_share : gYd yX8_share 1 := by refine ⟨?_, ?_, ?_⟩ <;> decide +kernel
theorem tw_1182 : Cond.instanceMethod yX8_share ∈ gTs := gmem (i := 1227) (by decide +kernel) (by decide +kernel)
theorem tw_1183 : Cond.selects RX8 yX8_share yX8_share ∈ gTs := gmem (i := 1228) (by decide +kernel) (by decide +kernel)
theorem tw_1185 : Cond.methodLink RL 160 yX8_round ∈ gTs := gmem (i := 1230) (by decide +kernel) (by decide +kernel)
theorem tw_1188 : Cond.code yX8_round cX8_round 3 (some .int) ∈ gTs := gmem (i := 1233) (by decide +kernel) (by decide +kernel)
theorem td_yX8_round : gYd yX8_round 2 := by refine ⟨?_, ?_, ?_⟩ <;> decide +kernel
theorem tw_1186 : Cond.instanceMethod yX8_round ∈ gTs := gmem (i := 1231) (by decide +kernel) (by decide +kernel)
theorem tw_1187 : Cond.selects RX8 yX8_round yX8_round ∈ gTs := gmem (i := 1232) (by decide +kernel) (by decide +kernel)
theorem tw_1189 : Cond.methodLink RL 163 yX8_turningPoint ∈ gTs := gmem (i := 1234) (by decide +kernel) (by decide +kernel)
theorem tw_1192 : Cond.code yX8_turningPoint cX8_turningPoint 7 (some .int) ∈ gTs := gmem (i := 1237) (by decide +kernel) (by decide +kernel)
theorem td_yX8_turningPoint : gYd yX8_turningPoint 0 := by refine ⟨?_, ?_, ?_⟩ <;> decide +kernel
theorem tw_1190 : Cond.instanceMethod yX8_turningPoint ∈ gTs := gmem (i := 1235) (by decide +kernel) (by decide +kernel)
theorem tw_1191 : Cond.selects RX8 yX8_turningPoint yX8_turningPoint ∈ gTs := gmem (i := 1236) (by decide +kernel) (by decide +kernel)
theorem tw_1193 : Cond.methodLink RL 166 yX8_guarantee ∈ gTs := gmem (i := 1238) (by decide +kernel) (by decide +kernel)
theorem tw_1196 : Cond.code yX8_guarantee cX8_guarantee 4 (some .int) ∈ gTs := gmem (i := 1241) (by decide +kernel) (by decide +kernel)
theorem td_yX8_guarantee : gYd yX8_guarantee 3 := by refine ⟨?_, ?_, ?_⟩ <;> decide +kernel
theorem tw_1194 : Cond.instanceMethod yX8_guarantee ∈ gTs := gmem (i := 1239) (by decide +kernel) (by decide +kernel)
theorem tw_1195 : Cond.selects RX8 yX8_guarantee yX8_guarantee ∈ gTs := gmem (i := 1240) (by decide +kernel) (by decide +kernel)
theorem tw_1197 : Cond.methodLink RX8 216 yX8_guaranteed ∈ gTs := gmem (i := 1242) (by decide +kernel) (by decide +kernel)
theorem tw_1200 : Cond.code yX8_guaranteed cX8_guaranteed 4 (some .int) ∈ gTs := gmem (i := 1245) (by decide +kernel) (by decide +kernel)
theorem td_yX8_guaranteed : gYd yX8_guaranteed 3 := by refine ⟨?_, ?_, ?_⟩ <;> decide +kernel
theorem tw_1199 : Cond.instanceMethod yX8_guaranteed ∈ gTs := gmem (i := 1244) (by decide +kernel) (by decide +kernel)
theorem tw_1201 : Cond.methodLink RX8 206 yX8_near ∈ gTs := gmem (i := 1246) (by decide +kernel) (by decide +kernel)
theorem tw_1204 : Cond.code yX8_near cX8_near 6 (some .int) ∈ gTs := gmem (i := 1249) (by decide +kernel) (by decide +kernel)
theorem td_yX8_near : gYd yX8_near 2 := by refine ⟨?_, ?_, ?_⟩ <;> decide +kernel
theorem tw_1203 : Cond.instanceMethod yX8_near ∈ gTs := gmem (i := 1248) (by decide +kernel) (by decide +kernel)
theorem tw_1205 : Cond.methodLink RX8 192 yX8_copies ∈ gTs := gmem (i := 1250) (by decide +kernel) (by decide +kernel)
theorem tw_1207 : Cond.code yX8_copies cX8_copies 4 none ∈ gTs := gmem (i := 1252) (by decide +kernel) (by decide +kernel)
theorem td_yX8_copies : gYd yX8_copies 3 := by refine ⟨?_, ?_, ?_⟩ <;> decide +kernel
theorem tw_1206 : Cond.static yX8_copies ∈ gTs := gmem (i := 1251) (by decide +kernel) (by decide +kernel)
theorem tw_1209 : Cond.methodLink RX8 199 yX8_makes ∈ gTs := gmem (i := 1254) (by decide +kernel) (by decide +kernel)
theorem tw_1212 : Cond.code yX8_makes cX8_makes 4 none ∈ gTs := gmem (i := 1257) (by decide +kernel) (by decide +kernel)
theorem td_yX8_makes : gYd yX8_makes 3 := by refine ⟨?_, ?_, ?_⟩ <;> decide +kernel
theorem tw_1211 : Cond.instanceMethod yX8_makes ∈ gTs := gmem (i := 1256) (by decide +kernel) (by decide +kernel)
theorem tw_1213 : Cond.methodLink RX8 202 yX8_outcome ∈ gTs := gmem (i := 1258) (by decide +kernel) (by decide +kernel)
theorem tw_1216 : Cond.code yX8_outcome cX8_outcome 2 (some .int) ∈ gTs := gmem (i := 1261) (by decide +kernel) (by decide +kernel)
theorem td_yX8_outcome : gYd yX8_outcome 1 := by refine ⟨?_, ?_, ?_⟩ <;> decide +kernel
theorem tw_1215 : Cond.instanceMethod yX8_outcome ∈ gTs := gmem (i := 1260) (by decide +kernel) (by decide +kernel)
theorem tw_1217 : Cond.methodLink RX8 213 yX8_far ∈ gTs := gmem (i := 1262) (by decide +kernel) (by decide +kernel)
theorem tw_1220 : Cond.code yX8_far cX8_far 6 (some .int) ∈ gTs := gmem (i := 1265) (by decide +kernel) (by decide +kernel)
theorem td_yX8_far : gYd yX8_far 2 := by refine ⟨?_, ?_, ?_⟩ <;> decide +kernel
theorem tw_1219 : Cond.instanceMethod yX8_far ∈ gTs := gmem (i := 1264) (by decide +kernel) (by decide +kernel)
theorem tw_1221 : Cond.methodLink RX8 210 yX8_bestNear ∈ gTs := gmem (i := 1266) (by decide +kernel) (by decide +kernel)
theorem tw_1224 : Cond.code yX8_bestNear cX8_bestNear 5 (some .int) ∈ gTs := gmem (i := 1269) (by decide +kernel) (by decide +kernel)
theorem td_yX8_bestNear : gYd yX8_bestNear 1 := by refine ⟨?_, ?_, ?_⟩ <;> decide +kernel
theorem tw_1223 : Cond.instanceMethod yX8_bestNear ∈ gTs := gmem (i := 1268) (by decide +kernel) (by decide +kernel)
theorem tw_1226 : Cond.methodLink RL 169 yX8_best ∈ gTs := gmem (i := 1271) (by decide +kernel) (by decide +kernel)
theorem tw_1229 : Cond.code yX8_best cX8_best 8 (some .int) ∈ gTs := gmem (i := 1274) (by decide +kernel) (by decide +kernel)
theorem td_yX8_best : gYd yX8_best 2 := by refine ⟨?_, ?_, ?_⟩ <;> decide +kernel
theorem tw_1227 : Cond.instanceMethod yX8_best ∈ gTs := gmem (i := 1272) (by decide +kernel) (by decide +kernel)
theorem tw_1228 : Cond.selects RX8 yX8_best yX8_best ∈ gTs := gmem (i := 1273) (by decide +kernel) (by decide +kernel)
theorem tw_1230 : Cond.methodLink RL 173 yX8_levels ∈ gTs := gmem (i := 1275) (by decide +kernel) (by decide +kernel)
theorem tw_1233 : Cond.code yX8_levels cX8_levels 1 (some .int) ∈ gTs := gmem (i := 1278) (by decide +kernel) (by decide +kernel)
theorem td_yX8_levels : gYd yX8_levels 0 := by refine ⟨?_, ?_, ?_⟩ <;> decide +kernel
theorem tw_1231 : Cond.instanceMethod yX8_levels ∈ gTs := gmem (i := 1276) (by decide +kernel) (by decide +kernel)
theorem tw_1232 : Cond.selects RX8 yX8_levels yX8_levels ∈ gTs := gmem (i := 1277) (by decide +kernel) (by decide +kernel)
theorem tw_1234 : Cond.methodLink RL 176 yX8_report ∈ gTs := gmem (i := 1279) (by decide +kernel) (by decide +kernel)
theorem tw_1237 : Cond.code yX8_report cX8_report 3 (some .int) ∈ gTs := gmem (i := 1282) (by decide +kernel) (by decide +kernel)
theorem td_yX8_report : gYd yX8_report 2 := by refine ⟨?_, ?_, ?_⟩ <;> decide +kernel
theorem tw_1235 : Cond.instanceMethod yX8_report ∈ gTs := gmem (i := 1280) (by decide +kernel) (by decide +kernel)
theorem tw_1236 : Cond.selects RX8 yX8_report yX8_report ∈ gTs := gmem (i := 1281) (by decide +kernel) (by decide +kernel)
theorem tw_1238 : Cond.methodLink RL 180 yX8_feed ∈ gTs := gmem (i := 1283) (by decide +kernel) (by decide +kernel)
theorem tw_1241 : Cond.code yX8_feed cX8_feed 2 (some .int) ∈ gTs := gmem (i := 1286) (by decide +kernel) (by decide +kernel)
theorem td_yX8_feed : gYd yX8_feed 1 := by refine ⟨?_, ?_, ?_⟩ <;> decide +kernel
theorem tw_1239 : Cond.instanceMethod yX8_feed ∈ gTs := gmem (i := 1284) (by decide +kernel) (by decide +kernel)
theorem tw_1240 : Cond.selects RX8 yX8_feed yX8_feed ∈ gTs := gmem (i := 1285) (by decide +kernel) (by decide +kernel)
theorem tw_1242 : Cond.methodLink RL 183 yX8_readRecord ∈ gTs := gmem (i := 1287) (by decide +kernel) (by decide +kernel)
theorem tw_1245 : Cond.code yX8_readRecord cX8_readRecord 5 (some .int) ∈ gTs := gmem (i := 1290) (by decide +kernel) (by decide +kernel)
theorem td_yX8_readRecord : gYd yX8_readRecord 0 := by refine ⟨?_, ?_, ?_⟩ <;> decide +kernel
theorem tw_1243 : Cond.instanceMethod yX8_readRecord ∈ gTs := gmem (i := 1288) (by decide +kernel) (by decide +kernel)
theorem tw_1244 : Cond.selects RX8 yX8_readRecord yX8_readRecord ∈ gTs := gmem (i := 1289) (by decide +kernel) (by decide +kernel)
theorem tw_1246 : Cond.methodLink RX8 239 yX8_isRound ∈ gTs := gmem (i := 1291) (by decide +kernel) (by decide +kernel)
theorem tw_1249 : Cond.code yX8_isRound cX8_isRound 1 (some .boolean) ∈ gTs := gmem (i := 1294) (by decide +kernel) (by decide +kernel)
theorem td_yX8_isRound : gYd yX8_isRound 0 := by refine ⟨?_, ?_, ?_⟩ <;> decide +kernel
theorem tw_1248 : Cond.instanceMethod yX8_isRound ∈ gTs := gmem (i := 1293) (by decide +kernel) (by decide +kernel)
theorem tw_1250 : Cond.methodLink RX8 230 yX8_choice ∈ gTs := gmem (i := 1295) (by decide +kernel) (by decide +kernel)
theorem tw_1253 : Cond.code yX8_choice cX8_choice 3 (some .int) ∈ gTs := gmem (i := 1298) (by decide +kernel) (by decide +kernel)
theorem td_yX8_choice : gYd yX8_choice 0 := by refine ⟨?_, ?_, ?_⟩ <;> decide +kernel
theorem tw_1252 : Cond.instanceMethod yX8_choice ∈ gTs := gmem (i := 1297) (by decide +kernel) (by decide +kernel)
theorem tw_1254 : Cond.methodLink RX8 226 yX8_isHere ∈ gTs := gmem (i := 1299) (by decide +kernel) (by decide +kernel)
theorem tw_1257 : Cond.code yX8_isHere cX8_isHere 3 (some .boolean) ∈ gTs := gmem (i := 1302) (by decide +kernel) (by decide +kernel)
theorem td_yX8_isHere : gYd yX8_isHere 2 := by refine ⟨?_, ?_, ?_⟩ <;> decide +kernel
theorem tw_1256 : Cond.instanceMethod yX8_isHere ∈ gTs := gmem (i := 1301) (by decide +kernel) (by decide +kernel)
theorem tw_1258 : Cond.methodLink RL 186 yX8_written ∈ gTs := gmem (i := 1303) (by decide +kernel) (by decide +kernel)
theorem tw_1261 : Cond.code yX8_written cX8_written 6 (some .char) ∈ gTs := gmem (i := 1306) (by decide +kernel) (by decide +kernel)
theorem td_yX8_written : gYd yX8_written 1 := by refine ⟨?_, ?_, ?_⟩ <;> decide +kernel
theorem tw_1259 : Cond.instanceMethod yX8_written ∈ gTs := gmem (i := 1304) (by decide +kernel) (by decide +kernel)
theorem tw_1260 : Cond.selects RX8 yX8_written yX8_written ∈ gTs := gmem (i := 1305) (by decide +kernel) (by decide +kernel)
theorem tw_1262 : Cond.methodLink RX8 242 yX8_lengthOf ∈ gTs := gmem (i := 1307) (by decide +kernel) (by decide +kernel)
theorem tw_1264 : Cond.code yX8_lengthOf cX8_lengthOf 1 (some .int) ∈ gTs := gmem (i := 1309) (by decide +kernel) (by decide +kernel)
theorem td_yX8_lengthOf : gYd yX8_lengthOf 1 := by refine ⟨?_, ?_, ?_⟩ <;> decide +kernel
theorem tw_1263 : Cond.static yX8_lengthOf ∈ gTs := gmem (i := 1308) (by decide +kernel) (by decide +kernel)
theorem tw_1265 : Cond.methodLink RX8 245 yX8_signOf ∈ gTs := gmem (i := 1310) (by decide +kernel) (by decide +kernel)
theorem tw_1268 : Cond.code yX8_signOf cX8_signOf 3 (some .char) ∈ gTs := gmem (i := 1313) (by decide +kernel) (by decide +kernel)
theorem td_yX8_signOf : gYd yX8_signOf 2 := by refine ⟨?_, ?_, ?_⟩ <;> decide +kernel
theorem tw_1267 : Cond.instanceMethod yX8_signOf ∈ gTs := gmem (i := 1312) (by decide +kernel) (by decide +kernel)
theorem tw_1269 : Cond.methodLink RL 190 yX8_save ∈ gTs := gmem (i := 1314) (by decide +kernel) (by decide +kernel)
theorem tw_1272 : Cond.code yX8_save cX8_save 1 (some .int) ∈ gTs := gmem (i := 1317) (by decide +kernel) (by decide +kernel)
theorem td_yX8_save : gYd yX8_save 0 := by refine ⟨?_, ?_, ?_⟩ <;> decide +kernel
theorem tw_1270 : Cond.instanceMethod yX8_save ∈ gTs := gmem (i := 1315) (by decide +kernel) (by decide +kernel)
theorem tw_1271 : Cond.selects RX8 yX8_save yX8_save ∈ gTs := gmem (i := 1316) (by decide +kernel) (by decide +kernel)
theorem tw_1273 : Cond.methodLink RL 193 yX8_restore ∈ gTs := gmem (i := 1318) (by decide +kernel) (by decide +kernel)
theorem tw_1276 : Cond.code yX8_restore cX8_restore 1 (some .int) ∈ gTs := gmem (i := 1321) (by decide +kernel) (by decide +kernel)
theorem td_yX8_restore : gYd yX8_restore 0 := by refine ⟨?_, ?_, ?_⟩ <;> decide +kernel
theorem tw_1274 : Cond.instanceMethod yX8_restore ∈ gTs := gmem (i := 1319) (by decide +kernel) (by decide +kernel)
theorem tw_1275 : Cond.selects RX8 yX8_restore yX8_restore ∈ gTs := gmem (i := 1320) (by decide +kernel) (by decide +kernel)
