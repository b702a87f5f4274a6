/-! ===== the 46 cases ===== -/
set_option maxRecDepth 20000 in
theorem case_0 {p : Program} {l : Launch} {e : Env} {s : State} {m : MethodId} {below : List Frame} {meth : Method} {c : Code} {b L : Nat} {xs : Nat → Int32} {G1 G2 : ZG} {i : Int32} {iv mv : Nat → Nat → Int} {rv : Nat → Nat → Option Nat} {B : Int} (X : LX p s m meth c b L xs G1 G2) (h : RL B iv rv mv) (hB : 0 ≤ B ∧ B ≤ 10000000) (hin : ∀ k : Int, 0 ≤ k → k ≤ 5 → vp_in (i + Int32.ofInt k) L) (kk : ∀ iv1 rv1 mv1, RL (B + 1000) iv1 rv1 mv1 → Lw p l e s m below meth c b G1 G2 i 1551 [] iv1 rv1 mv1) : Lw p l e s m below meth c b G1 G2 i 232 [] iv rv mv := by
  refine y_ld1 X (dL 22) ?_
  refine y_callC (st := []) (As := []) X (dL 23) lkL_13 rfl (by decide) (Nat.le_of_ble_eq_true rfl) (zin_nil) rfl (P_status (G' := G2) h hB) (fun r A q => QC_c q) (fun r iv1 rv1 q => ?_)
  obtain ⟨iv2, rv2, eA, q⟩ := q
  obtain ⟨eI, eR⟩ := mkC_inj eA
  subst eI; subst eR
  refine y_ld2 X (dL 24) ?_
  refine y_callM (As := []) X (dL 25) lkL_17 rfl (rcat _) (Nat.le_of_ble_eq_true rfl) (zin_nil) rfl q (fun r A q => QM_m q) (fun r1 mv1 q => ?_)
  obtain ⟨x, rfl, rfl, hR⟩ := QM_x q
  exact y_eq X (dL 26) (by decide) (kk _ _ _ hR)
set_option maxRecDepth 20000 in
theorem case_1 {p : Program} {l : Launch} {e : Env} {s : State} {m : MethodId} {below : List Frame} {meth : Method} {c : Code} {b L : Nat} {xs : Nat → Int32} {G1 G2 : ZG} {i : Int32} {iv mv : Nat → Nat → Int} {rv : Nat → Nat → Option Nat} {B : Int} (X : LX p s m meth c b L xs G1 G2) (h : RL B iv rv mv) (hB : 0 ≤ B ∧ B ≤ 10000000) (hin : ∀ k : Int, 0 ≤ k → k ≤ 5 → vp_in (i + Int32.ofInt k) L) (kk : ∀ iv1 rv1 mv1, RL (B + 1000) iv1 rv1 mv1 → Lw p l e s m below meth c b G1 G2 i 1551 [] iv1 rv1 mv1) : Lw p l e s m below meth c b G1 G2 i 245 [] iv rv mv := by
  refine y_ld1 X (dL 29) ?_
  refine y_arg X (dL 30) (dL 31) (dL 32) (dL 33) (dL 34) (hin 1 (by decide) (by decide)) ?_
  refine y_arg X (dL 35) (dL 36) (dL 37) (dL 38) (dL 39) (hin 2 (by decide) (by decide)) ?_
  refine y_arg X (dL 40) (dL 41) (dL 42) (dL 43) (dL 44) (hin 3 (by decide) (by decide)) ?_
  refine y_callC (st := []) (As := [vi (ai xs i 1), vi (ai xs i 2), vi (ai xs i 3)]) X (dL 45) lkL_18 rfl (by decide) (Nat.le_of_ble_eq_true rfl) (zin_cons.mpr ⟨z32 _, zin_cons.mpr ⟨z32 _, zin_cons.mpr ⟨z32 _, zin_nil⟩⟩⟩) rfl (P_tray (G' := G2) h hB (z32 _) (z32 _) (z32 _)) (fun r A q => QC_c q) (fun r iv1 rv1 q => ?_)
  obtain ⟨iv2, rv2, eA, q⟩ := q
  obtain ⟨eI, eR⟩ := mkC_inj eA
  subst eI; subst eR
  refine y_ld2 X (dL 46) ?_
  refine y_arg X (dL 47) (dL 48) (dL 49) (dL 50) (dL 51) (hin 1 (by decide) (by decide)) ?_
  refine y_arg X (dL 52) (dL 53) (dL 54) (dL 55) (dL 56) (hin 2 (by decide) (by decide)) ?_
  refine y_arg X (dL 57) (dL 58) (dL 59) (dL 60) (dL 61) (hin 3 (by decide) (by decide)) ?_
  refine y_callM (As := [vi (ai xs i 1), vi (ai xs i 2), vi (ai xs i 3)]) X (dL 62) lkL_22 rfl (rcat _) (Nat.le_of_ble_eq_true rfl) (zin_cons.mpr ⟨z32 _, zin_cons.mpr ⟨z32 _, zin_cons.mpr ⟨z32 _, zin_nil⟩⟩⟩) rfl q (fun r A q => QM_m q) (fun r1 mv1 q => ?_)
  obtain ⟨x, rfl, rfl, hR⟩ := QM_x q
  exact y_eq X (dL 63) (by decide) (kk _ _ _ hR)
set_option maxRecDepth 20000 in
theorem case_2 {p : Program} {l : Launch} {e : Env} {s : State} {m : MethodId} {below : List Frame} {meth : Method} {c : Code} {b L : Nat} {xs : Nat → Int32} {G1 G2 : ZG} {i : Int32} {iv mv : Nat → Nat → Int} {rv : Nat → Nat → Option Nat} {B : Int} (X : LX p s m meth c b L xs G1 G2) (h : RL B iv rv mv) (hB : 0 ≤ B ∧ B ≤ 10000000) (hin : ∀ k : Int, 0 ≤ k → k ≤ 5 → vp_in (i + Int32.ofInt k) L) (kk : ∀ iv1 rv1 mv1, RL (B + 1000) iv1 rv1 mv1 → Lw p l e s m below meth c b G1 G2 i 1551 [] iv1 rv1 mv1) : Lw p l e s m below meth c b G1 G2 i 288 [] iv rv mv := by
  refine y_ld1 X (dL 66) ?_
  refine y_arg X (dL 67) (dL 68) (dL 69) (dL 70) (dL 71) (hin 1 (by decide) (by decide)) ?_
  refine y_arg X (dL 72) (dL 73) (dL 74) (dL 75) (dL 76) (hin 2 (by decide) (by decide)) ?_
  refine y_long X (dL 77) (dL 78) (dL 79) (dL 80) (dL 81) (dL 82) (dL 83) (dL 84) (dL 85) (dL 86) (dL 87) (dL 88) (dL 89) (dL 90) (dL 91) (dL 92) (dL 93) (hin 3 (by decide) (by decide)) (hin 4 (by decide) (by decide)) ?_
  refine y_callC (st := []) (As := [vi (ai xs i 1), vi (ai xs i 2), vl (al xs i)]) X (dL 94) lkL_25 rfl (by decide) (Nat.le_of_ble_eq_true rfl) (zin_cons.mpr ⟨z32 _, zin_cons.mpr ⟨z32 _, zin_cons.mpr ⟨z64 _, zin_nil⟩⟩⟩) rfl (P_write (G' := G2) h hB (z32 _) (z32 _) (z64 _)) (fun r A q => QC_c q) (fun r iv1 rv1 q => ?_)
  obtain ⟨iv2, rv2, eA, q⟩ := q
  obtain ⟨eI, eR⟩ := mkC_inj eA
  subst eI; subst eR
  refine y_ld2 X (dL 95) ?_
  refine y_arg X (dL 96) (dL 97) (dL 98) (dL 99) (dL 100) (hin 1 (by decide) (by decide)) ?_
  refine y_arg X (dL 101) (dL 102) (dL 103) (dL 104) (dL 105) (hin 2 (by decide) (by decide)) ?_
  refine y_long X (dL 106) (dL 107) (dL 108) (dL 109) (dL 110) (dL 111) (dL 112) (dL 113) (dL 114) (dL 115) (dL 116) (dL 117) (dL 118) (dL 119) (dL 120) (dL 121) (dL 122) (hin 3 (by decide) (by decide)) (hin 4 (by decide) (by decide)) ?_
  refine y_callM (As := [vi (ai xs i 1), vi (ai xs i 2), vl (al xs i)]) X (dL 123) lkL_29 rfl (rcat _) (Nat.le_of_ble_eq_true rfl) (zin_cons.mpr ⟨z32 _, zin_cons.mpr ⟨z32 _, zin_cons.mpr ⟨z64 _, zin_nil⟩⟩⟩) rfl q (fun r A q => QM_m q) (fun r1 mv1 q => ?_)
  obtain ⟨x, rfl, rfl, hR⟩ := QM_x q
  exact y_eq X (dL 124) (by decide) (kk _ _ _ hR)
set_option maxRecDepth 20000 in
theorem case_3 {p : Program} {l : Launch} {e : Env} {s : State} {m : MethodId} {below : List Frame} {meth : Method} {c : Code} {b L : Nat} {xs : Nat → Int32} {G1 G2 : ZG} {i : Int32} {iv mv : Nat → Nat → Int} {rv : Nat → Nat → Option Nat} {B : Int} (X : LX p s m meth c b L xs G1 G2) (h : RL B iv rv mv) (hB : 0 ≤ B ∧ B ≤ 10000000) (hin : ∀ k : Int, 0 ≤ k → k ≤ 5 → vp_in (i + Int32.ofInt k) L) (kk : ∀ iv1 rv1 mv1, RL (B + 1000) iv1 rv1 mv1 → Lw p l e s m below meth c b G1 G2 i 1551 [] iv1 rv1 mv1) : Lw p l e s m below meth c b G1 G2 i 361 [] iv rv mv := by
  refine y_ld1 X (dL 127) ?_
  refine y_arg X (dL 128) (dL 129) (dL 130) (dL 131) (dL 132) (hin 1 (by decide) (by decide)) ?_
  refine y_arg X (dL 133) (dL 134) (dL 135) (dL 136) (dL 137) (hin 2 (by decide) (by decide)) ?_
  refine y_callC (st := []) (As := [vi (ai xs i 1), vi (ai xs i 2)]) X (dL 138) lkL_30 rfl (by decide) (Nat.le_of_ble_eq_true rfl) (zin_cons.mpr ⟨z32 _, zin_cons.mpr ⟨z32 _, zin_nil⟩⟩) rfl (P_read (G' := G2) h hB (z32 _) (z32 _)) (fun r A q => QCL_c q) (fun r iv1 rv1 q => ?_)
  obtain ⟨iv2, rv2, eA, q⟩ := q
  obtain ⟨eI, eR⟩ := mkC_inj eA
  subst eI; subst eR
  refine y_ld2 X (dL 139) ?_
  refine y_arg X (dL 140) (dL 141) (dL 142) (dL 143) (dL 144) (hin 1 (by decide) (by decide)) ?_
  refine y_arg X (dL 145) (dL 146) (dL 147) (dL 148) (dL 149) (hin 2 (by decide) (by decide)) ?_
  refine y_callM (As := [vi (ai xs i 1), vi (ai xs i 2)]) X (dL 150) lkL_34 rfl (rcat _) (Nat.le_of_ble_eq_true rfl) (zin_cons.mpr ⟨z32 _, zin_cons.mpr ⟨z32 _, zin_nil⟩⟩) rfl q (fun r A q => QML_m q) (fun r1 mv1 q => ?_)
  obtain ⟨x, rfl, rfl, hR⟩ := QML_x q
  exact y_eql X (dL 151) (dL 152) (by decide) (kk _ _ _ hR)
set_option maxRecDepth 20000 in
theorem case_4 {p : Program} {l : Launch} {e : Env} {s : State} {m : MethodId} {below : List Frame} {meth : Method} {c : Code} {b L : Nat} {xs : Nat → Int32} {G1 G2 : ZG} {i : Int32} {iv mv : Nat → Nat → Int} {rv : Nat → Nat → Option Nat} {B : Int} (X : LX p s m meth c b L xs G1 G2) (h : RL B iv rv mv) (hB : 0 ≤ B ∧ B ≤ 10000000) (hin : ∀ k : Int, 0 ≤ k → k ≤ 5 → vp_in (i + Int32.ofInt k) L) (kk : ∀ iv1 rv1 mv1, RL (B + 1000) iv1 rv1 mv1 → Lw p l e s m below meth c b G1 G2 i 1551 [] iv1 rv1 mv1) : Lw p l e s m below meth c b G1 G2 i 395 [] iv rv mv := by
  refine y_ld1 X (dL 155) ?_
  refine y_arg X (dL 156) (dL 157) (dL 158) (dL 159) (dL 160) (hin 1 (by decide) (by decide)) ?_
  refine y_arg X (dL 161) (dL 162) (dL 163) (dL 164) (dL 165) (hin 2 (by decide) (by decide)) ?_
  refine y_arg X (dL 166) (dL 167) (dL 168) (dL 169) (dL 170) (hin 3 (by decide) (by decide)) ?_
  refine y_arg X (dL 171) (dL 172) (dL 173) (dL 174) (dL 175) (hin 4 (by decide) (by decide)) ?_
  refine y_arg X (dL 176) (dL 177) (dL 178) (dL 179) (dL 180) (hin 5 (by decide) (by decide)) ?_
  refine y_callC (st := []) (As := [vi (ai xs i 1), vi (ai xs i 2), vi (ai xs i 3), vi (ai xs i 4), vi (ai xs i 5)]) X (dL 181) lkL_35 rfl (by decide) (Nat.le_of_ble_eq_true rfl) (zin_cons.mpr ⟨z32 _, zin_cons.mpr ⟨z32 _, zin_cons.mpr ⟨z32 _, zin_cons.mpr ⟨z32 _, zin_cons.mpr ⟨z32 _, zin_nil⟩⟩⟩⟩⟩) rfl (P_pour (G' := G2) h hB (z32 _) (z32 _) (z32 _) (z32 _) (z32 _)) (fun r A q => QC_c q) (fun r iv1 rv1 q => ?_)
  obtain ⟨iv2, rv2, eA, q⟩ := q
  obtain ⟨eI, eR⟩ := mkC_inj eA
  subst eI; subst eR
  refine y_ld2 X (dL 182) ?_
  refine y_arg X (dL 183) (dL 184) (dL 185) (dL 186) (dL 187) (hin 1 (by decide) (by decide)) ?_
  refine y_arg X (dL 188) (dL 189) (dL 190) (dL 191) (dL 192) (hin 2 (by decide) (by decide)) ?_
  refine y_arg X (dL 193) (dL 194) (dL 195) (dL 196) (dL 197) (hin 3 (by decide) (by decide)) ?_
  refine y_arg X (dL 198) (dL 199) (dL 200) (dL 201) (dL 202) (hin 4 (by decide) (by decide)) ?_
  refine y_arg X (dL 203) (dL 204) (dL 205) (dL 206) (dL 207) (hin 5 (by decide) (by decide)) ?_
  refine y_callM (As := [vi (ai xs i 1), vi (ai xs i 2), vi (ai xs i 3), vi (ai xs i 4), vi (ai xs i 5)]) X (dL 208) lkL_39 rfl (rcat _) (Nat.le_of_ble_eq_true rfl) (zin_cons.mpr ⟨z32 _, zin_cons.mpr ⟨z32 _, zin_cons.mpr ⟨z32 _, zin_cons.mpr ⟨z32 _, zin_cons.mpr ⟨z32 _, zin_nil⟩⟩⟩⟩⟩) rfl q (fun r A q => QM_m q) (fun r1 mv1 q => ?_)
  obtain ⟨x, rfl, rfl, hR⟩ := QM_x q
  exact y_eq X (dL 209) (by decide) (kk _ _ _ hR)
set_option maxRecDepth 20000 in
theorem case_5 {p : Program} {l : Launch} {e : Env} {s : State} {m : MethodId} {below : List Frame} {meth : Method} {c : Code} {b L : Nat} {xs : Nat → Int32} {G1 G2 : ZG} {i : Int32} {iv mv : Nat → Nat → Int} {rv : Nat → Nat → Option Nat} {B : Int} (X : LX p s m meth c b L xs G1 G2) (h : RL B iv rv mv) (hB : 0 ≤ B ∧ B ≤ 10000000) (hin : ∀ k : Int, 0 ≤ k → k ≤ 5 → vp_in (i + Int32.ofInt k) L) (kk : ∀ iv1 rv1 mv1, RL (B + 1000) iv1 rv1 mv1 → Lw p l e s m below meth c b G1 G2 i 1551 [] iv1 rv1 mv1) : Lw p l e s m below meth c b G1 G2 i 458 [] iv rv mv := by
  refine y_ld1 X (dL 212) ?_
  refine y_arg X (dL 213) (dL 214) (dL 215) (dL 216) (dL 217) (hin 1 (by decide) (by decide)) ?_
  refine y_arg X (dL 218) (dL 219) (dL 220) (dL 221) (dL 222) (hin 2 (by decide) (by decide)) ?_
  refine y_arg X (dL 223) (dL 224) (dL 225) (dL 226) (dL 227) (hin 3 (by decide) (by decide)) ?_
  refine y_callC (st := []) (As := [vi (ai xs i 1), vi (ai xs i 2), vi (ai xs i 3)]) X (dL 228) lkL_40 rfl (by decide) (Nat.le_of_ble_eq_true rfl) (zin_cons.mpr ⟨z32 _, zin_cons.mpr ⟨z32 _, zin_cons.mpr ⟨z32 _, zin_nil⟩⟩⟩) rfl (P_song (G' := G2) h hB (z32 _) (z32 _) (z32 _)) (fun r A q => QC_c q) (fun r iv1 rv1 q => ?_)
  obtain ⟨iv2, rv2, eA, q⟩ := q
  obtain ⟨eI, eR⟩ := mkC_inj eA
  subst eI; subst eR
  refine y_ld2 X (dL 229) ?_
  refine y_arg X (dL 230) (dL 231) (dL 232) (dL 233) (dL 234) (hin 1 (by decide) (by decide)) ?_
  refine y_arg X (dL 235) (dL 236) (dL 237) (dL 238) (dL 239) (hin 2 (by decide) (by decide)) ?_
  refine y_arg X (dL 240) (dL 241) (dL 242) (dL 243) (dL 244) (hin 3 (by decide) (by decide)) ?_
  refine y_callM (As := [vi (ai xs i 1), vi (ai xs i 2), vi (ai xs i 3)]) X (dL 245) lkL_44 rfl (rcat _) (Nat.le_of_ble_eq_true rfl) (zin_cons.mpr ⟨z32 _, zin_cons.mpr ⟨z32 _, zin_cons.mpr ⟨z32 _, zin_nil⟩⟩⟩) rfl q (fun r A q => QM_m q) (fun r1 mv1 q => ?_)
  obtain ⟨x, rfl, rfl, hR⟩ := QM_x q
  exact y_eq X (dL 246) (by decide) (kk _ _ _ hR)
set_option maxRecDepth 20000 in
theorem case_6 {p : Program} {l : Launch} {e : Env} {s : State} {m : MethodId} {below : List Frame} {meth : Method} {c : Code} {b L : Nat} {xs : Nat → Int32} {G1 G2 : ZG} {i : Int32} {iv mv : Nat → Nat → Int} {rv : Nat → Nat → Option Nat} {B : Int} (X : LX p s m meth c b L xs G1 G2) (h : RL B iv rv mv) (hB : 0 ≤ B ∧ B ≤ 10000000) (hin : ∀ k : Int, 0 ≤ k → k ≤ 5 → vp_in (i + Int32.ofInt k) L) (kk : ∀ iv1 rv1 mv1, RL (B + 1000) iv1 rv1 mv1 → Lw p l e s m below meth c b G1 G2 i 1551 [] iv1 rv1 mv1) : Lw p l e s m below meth c b G1 G2 i 501 [] iv rv mv := by
  refine y_ld1 X (dL 249) ?_
  refine y_arg X (dL 250) (dL 251) (dL 252) (dL 253) (dL 254) (hin 1 (by decide) (by decide)) ?_
  refine y_arg X (dL 255) (dL 256) (dL 257) (dL 258) (dL 259) (hin 2 (by decide) (by decide)) ?_
  refine y_callC (st := []) (As := [vi (ai xs i 1), vi (ai xs i 2)]) X (dL 260) lkL_45 rfl (by decide) (Nat.le_of_ble_eq_true rfl) (zin_cons.mpr ⟨z32 _, zin_cons.mpr ⟨z32 _, zin_nil⟩⟩) rfl (P_told (G' := G2) h hB (z32 _) (z32 _)) (fun r A q => QC_c q) (fun r iv1 rv1 q => ?_)
  obtain ⟨iv2, rv2, eA, q⟩ := q
  obtain ⟨eI, eR⟩ := mkC_inj eA
  subst eI; subst eR
  refine y_ld2 X (dL 261) ?_
  refine y_arg X (dL 262) (dL 263) (dL 264) (dL 265) (dL 266) (hin 1 (by decide) (by decide)) ?_
  refine y_arg X (dL 267) (dL 268) (dL 269) (dL 270) (dL 271) (hin 2 (by decide) (by decide)) ?_
  refine y_callM (As := [vi (ai xs i 1), vi (ai xs i 2)]) X (dL 272) lkL_49 rfl (rcat _) (Nat.le_of_ble_eq_true rfl) (zin_cons.mpr ⟨z32 _, zin_cons.mpr ⟨z32 _, zin_nil⟩⟩) rfl q (fun r A q => QM_m q) (fun r1 mv1 q => ?_)
  obtain ⟨x, rfl, rfl, hR⟩ := QM_x q
  exact y_eq X (dL 273) (by decide) (kk _ _ _ hR)
set_option maxRecDepth 20000 in
theorem case_7 {p : Program} {l : Launch} {e : Env} {s : State} {m : MethodId} {below : List Frame} {meth : Method} {c : Code} {b L : Nat} {xs : Nat → Int32} {G1 G2 : ZG} {i : Int32} {iv mv : Nat → Nat → Int} {rv : Nat → Nat → Option Nat} {B : Int} (X : LX p s m meth c b L xs G1 G2) (h : RL B iv rv mv) (hB : 0 ≤ B ∧ B ≤ 10000000) (hin : ∀ k : Int, 0 ≤ k → k ≤ 5 → vp_in (i + Int32.ofInt k) L) (kk : ∀ iv1 rv1 mv1, RL (B + 1000) iv1 rv1 mv1 → Lw p l e s m below meth c b G1 G2 i 1551 [] iv1 rv1 mv1) : Lw p l e s m below meth c b G1 G2 i 534 [] iv rv mv := by
  refine y_ld1 X (dL 276) ?_
  refine y_arg X (dL 277) (dL 278) (dL 279) (dL 280) (dL 281) (hin 1 (by decide) (by decide)) ?_
  refine y_arg X (dL 282) (dL 283) (dL 284) (dL 285) (dL 286) (hin 2 (by decide) (by decide)) ?_
  refine y_callC (st := []) (As := [vi (ai xs i 1), vi (ai xs i 2)]) X (dL 287) lkL_50 rfl (by decide) (Nat.le_of_ble_eq_true rfl) (zin_cons.mpr ⟨z32 _, zin_cons.mpr ⟨z32 _, zin_nil⟩⟩) rfl (P_rules (G' := G2) h hB (z32 _) (z32 _)) (fun r A q => QC_c q) (fun r iv1 rv1 q => ?_)
  obtain ⟨iv2, rv2, eA, q⟩ := q
  obtain ⟨eI, eR⟩ := mkC_inj eA
  subst eI; subst eR
  refine y_ld2 X (dL 288) ?_
  refine y_arg X (dL 289) (dL 290) (dL 291) (dL 292) (dL 293) (hin 1 (by decide) (by decide)) ?_
  refine y_arg X (dL 294) (dL 295) (dL 296) (dL 297) (dL 298) (hin 2 (by decide) (by decide)) ?_
  refine y_callM (As := [vi (ai xs i 1), vi (ai xs i 2)]) X (dL 299) lkL_54 rfl (rcat _) (Nat.le_of_ble_eq_true rfl) (zin_cons.mpr ⟨z32 _, zin_cons.mpr ⟨z32 _, zin_nil⟩⟩) rfl q (fun r A q => QM_m q) (fun r1 mv1 q => ?_)
  obtain ⟨x, rfl, rfl, hR⟩ := QM_x q
  exact y_eq X (dL 300) (by decide) (kk _ _ _ hR)
set_option maxRecDepth 20000 in
theorem case_8 {p : Program} {l : Launch} {e : Env} {s : State} {m : MethodId} {below : List Frame} {meth : Method} {c : Code} {b L : Nat} {xs : Nat → Int32} {G1 G2 : ZG} {i : Int32} {iv mv : Nat → Nat → Int} {rv : Nat → Nat → Option Nat} {B : Int} (X : LX p s m meth c b L xs G1 G2) (h : RL B iv rv mv) (hB : 0 ≤ B ∧ B ≤ 10000000) (hin : ∀ k : Int, 0 ≤ k → k ≤ 5 → vp_in (i + Int32.ofInt k) L) (kk : ∀ iv1 rv1 mv1, RL (B + 1000) iv1 rv1 mv1 → Lw p l e s m below meth c b G1 G2 i 1551 [] iv1 rv1 mv1) : Lw p l e s m below meth c b G1 G2 i 567 [] iv rv mv := by
  refine y_ld1 X (dL 303) ?_
  refine y_arg X (dL 304) (dL 305) (dL 306) (dL 307) (dL 308) (hin 1 (by decide) (by decide)) ?_
  refine y_callC (st := []) (As := [vi (ai xs i 1)]) X (dL 309) lkL_55 rfl (by decide) (Nat.le_of_ble_eq_true rfl) (zin_cons.mpr ⟨z32 _, zin_nil⟩) rfl (P_anew (G' := G2) h hB (z32 _)) (fun r A q => QC_c q) (fun r iv1 rv1 q => ?_)
  obtain ⟨iv2, rv2, eA, q⟩ := q
  obtain ⟨eI, eR⟩ := mkC_inj eA
  subst eI; subst eR
  refine y_ld2 X (dL 310) ?_
  refine y_arg X (dL 311) (dL 312) (dL 313) (dL 314) (dL 315) (hin 1 (by decide) (by decide)) ?_
  refine y_callM (As := [vi (ai xs i 1)]) X (dL 316) lkL_59 rfl (rcat _) (Nat.le_of_ble_eq_true rfl) (zin_cons.mpr ⟨z32 _, zin_nil⟩) rfl q (fun r A q => QM_m q) (fun r1 mv1 q => ?_)
  obtain ⟨x, rfl, rfl, hR⟩ := QM_x q
  exact y_eq X (dL 317) (by decide) (kk _ _ _ hR)
set_option maxRecDepth 20000 in
theorem case_9 {p : Program} {l : Launch} {e : Env} {s : State} {m : MethodId} {below : List Frame} {meth : Method} {c : Code} {b L : Nat} {xs : Nat → Int32} {G1 G2 : ZG} {i : Int32} {iv mv : Nat → Nat → Int} {rv : Nat → Nat → Option Nat} {B : Int} (X : LX p s m meth c b L xs G1 G2) (h : RL B iv rv mv) (hB : 0 ≤ B ∧ B ≤ 10000000) (hin : ∀ k : Int, 0 ≤ k → k ≤ 5 → vp_in (i + Int32.ofInt k) L) (kk : ∀ iv1 rv1 mv1, RL (B + 1000) iv1 rv1 mv1 → Lw p l e s m below meth c b G1 G2 i 1551 [] iv1 rv1 mv1) : Lw p l e s m below meth c b G1 G2 i 590 [] iv rv mv := by
  refine y_ld1 X (dL 320) ?_
  refine y_arg X (dL 321) (dL 322) (dL 323) (dL 324) (dL 325) (hin 1 (by decide) (by decide)) ?_
  refine y_arg X (dL 326) (dL 327) (dL 328) (dL 329) (dL 330) (hin 2 (by decide) (by decide)) ?_
  refine y_callC (st := []) (As := [vi (ai xs i 1), vi (ai xs i 2)]) X (dL 331) lkL_60 rfl (by decide) (Nat.le_of_ble_eq_true rfl) (zin_cons.mpr ⟨z32 _, zin_cons.mpr ⟨z32 _, zin_nil⟩⟩) rfl (P_lead (G' := G2) h hB (z32 _) (z32 _)) (fun r A q => QC_c q) (fun r iv1 rv1 q => ?_)
  obtain ⟨iv2, rv2, eA, q⟩ := q
  obtain ⟨eI, eR⟩ := mkC_inj eA
  subst eI; subst eR
  refine y_ld2 X (dL 332) ?_
  refine y_arg X (dL 333) (dL 334) (dL 335) (dL 336) (dL 337) (hin 1 (by decide) (by decide)) ?_
  refine y_arg X (dL 338) (dL 339) (dL 340) (dL 341) (dL 342) (hin 2 (by decide) (by decide)) ?_
  refine y_callM (As := [vi (ai xs i 1), vi (ai xs i 2)]) X (dL 343) lkL_63 rfl (rcat _) (Nat.le_of_ble_eq_true rfl) (zin_cons.mpr ⟨z32 _, zin_cons.mpr ⟨z32 _, zin_nil⟩⟩) rfl q (fun r A q => QM_m q) (fun r1 mv1 q => ?_)
  obtain ⟨x, rfl, rfl, hR⟩ := QM_x q
  exact y_eq X (dL 344) (by decide) (kk _ _ _ hR)
set_option maxRecDepth 20000 in
theorem case_10 {p : Program} {l : Launch} {e : Env} {s : State} {m : MethodId} {below : List Frame} {meth : Method} {c : Code} {b L : Nat} {xs : Nat → Int32} {G1 G2 : ZG} {i : Int32} {iv mv : Nat → Nat → Int} {rv : Nat → Nat → Option Nat} {B : Int} (X : LX p s m meth c b L xs G1 G2) (h : RL B iv rv mv) (hB : 0 ≤ B ∧ B ≤ 10000000) (hin : ∀ k : Int, 0 ≤ k → k ≤ 5 → vp_in (i + Int32.ofInt k) L) (kk : ∀ iv1 rv1 mv1, RL (B + 1000) iv1 rv1 mv1 → Lw p l e s m below meth c b G1 G2 i 1551 [] iv1 rv1 mv1) : Lw p l e s m below meth c b G1 G2 i 623 [] iv rv mv := by
  refine y_ld1 X (dL 347) ?_
  refine y_arg X (dL 348) (dL 349) (dL 350) (dL 351) (dL 352) (hin 1 (by decide) (by decide)) ?_
  refine y_arg X (dL 353) (dL 354) (dL 355) (dL 356) (dL 357) (hin 2 (by decide) (by decide)) ?_
  refine y_callC (st := []) (As := [vi (ai xs i 1), vi (ai xs i 2)]) X (dL 358) lkL_64 rfl (by decide) (Nat.le_of_ble_eq_true rfl) (zin_cons.mpr ⟨z32 _, zin_cons.mpr ⟨z32 _, zin_nil⟩⟩) rfl (P_lay (G' := G2) h hB (z32 _) (z32 _)) (fun r A q => QC_c q) (fun r iv1 rv1 q => ?_)
  obtain ⟨iv2, rv2, eA, q⟩ := q
  obtain ⟨eI, eR⟩ := mkC_inj eA
  subst eI; subst eR
  refine y_ld2 X (dL 359) ?_
  refine y_arg X (dL 360) (dL 361) (dL 362) (dL 363) (dL 364) (hin 1 (by decide) (by decide)) ?_
  refine y_arg X (dL 365) (dL 366) (dL 367) (dL 368) (dL 369) (hin 2 (by decide) (by decide)) ?_
  refine y_callM (As := [vi (ai xs i 1), vi (ai xs i 2)]) X (dL 370) lkL_67 rfl (rcat _) (Nat.le_of_ble_eq_true rfl) (zin_cons.mpr ⟨z32 _, zin_cons.mpr ⟨z32 _, zin_nil⟩⟩) rfl q (fun r A q => QM_m q) (fun r1 mv1 q => ?_)
  obtain ⟨x, rfl, rfl, hR⟩ := QM_x q
  exact y_eq X (dL 371) (by decide) (kk _ _ _ hR)
set_option maxRecDepth 20000 in
theorem case_11 {p : Program} {l : Launch} {e : Env} {s : State} {m : MethodId} {below : List Frame} {meth : Method} {c : Code} {b L : Nat} {xs : Nat → Int32} {G1 G2 : ZG} {i : Int32} {iv mv : Nat → Nat → Int} {rv : Nat → Nat → Option Nat} {B : Int} (X : LX p s m meth c b L xs G1 G2) (h : RL B iv rv mv) (hB : 0 ≤ B ∧ B ≤ 10000000) (hin : ∀ k : Int, 0 ≤ k → k ≤ 5 → vp_in (i + Int32.ofInt k) L) (kk : ∀ iv1 rv1 mv1, RL (B + 1000) iv1 rv1 mv1 → Lw p l e s m below meth c b G1 G2 i 1551 [] iv1 rv1 mv1) : Lw p l e s m below meth c b G1 G2 i 656 [] iv rv mv := by
  refine y_ld1 X (dL 374) ?_
  refine y_arg X (dL 375) (dL 376) (dL 377) (dL 378) (dL 379) (hin 1 (by decide) (by decide)) ?_
  refine y_callC (st := []) (As := [vi (ai xs i 1)]) X (dL 380) lkL_68 rfl (by decide) (Nat.le_of_ble_eq_true rfl) (zin_cons.mpr ⟨z32 _, zin_nil⟩) rfl (P_parts (G' := G2) h hB (z32 _)) (fun r A q => QC_c q) (fun r iv1 rv1 q => ?_)
  obtain ⟨iv2, rv2, eA, q⟩ := q
  obtain ⟨eI, eR⟩ := mkC_inj eA
  subst eI; subst eR
  refine y_ld2 X (dL 381) ?_
  refine y_arg X (dL 382) (dL 383) (dL 384) (dL 385) (dL 386) (hin 1 (by decide) (by decide)) ?_
  refine y_callM (As := [vi (ai xs i 1)]) X (dL 387) lkL_72 rfl (rcat _) (Nat.le_of_ble_eq_true rfl) (zin_cons.mpr ⟨z32 _, zin_nil⟩) rfl q (fun r A q => QM_m q) (fun r1 mv1 q => ?_)
  obtain ⟨x, rfl, rfl, hR⟩ := QM_x q
  exact y_eq X (dL 388) (by decide) (kk _ _ _ hR)
set_option maxRecDepth 20000 in
theorem case_12 {p : Program} {l : Launch} {e : Env} {s : State} {m : MethodId} {below : List Frame} {meth : Method} {c : Code} {b L : Nat} {xs : Nat → Int32} {G1 G2 : ZG} {i : Int32} {iv mv : Nat → Nat → Int} {rv : Nat → Nat → Option Nat} {B : Int} (X : LX p s m meth c b L xs G1 G2) (h : RL B iv rv mv) (hB : 0 ≤ B ∧ B ≤ 10000000) (hin : ∀ k : Int, 0 ≤ k → k ≤ 5 → vp_in (i + Int32.ofInt k) L) (kk : ∀ iv1 rv1 mv1, RL (B + 1000) iv1 rv1 mv1 → Lw p l e s m below meth c b G1 G2 i 1551 [] iv1 rv1 mv1) : Lw p l e s m below meth c b G1 G2 i 679 [] iv rv mv := by
  refine y_ld1 X (dL 391) ?_
  refine y_arg X (dL 392) (dL 393) (dL 394) (dL 395) (dL 396) (hin 1 (by decide) (by decide)) ?_
  refine y_arg X (dL 397) (dL 398) (dL 399) (dL 400) (dL 401) (hin 2 (by decide) (by decide)) ?_
  refine y_callC (st := []) (As := [vi (ai xs i 1), vi (ai xs i 2)]) X (dL 402) lkL_73 rfl (by decide) (Nat.le_of_ble_eq_true rfl) (zin_cons.mpr ⟨z32 _, zin_cons.mpr ⟨z32 _, zin_nil⟩⟩) rfl (P_level (G' := G2) h hB (z32 _) (z32 _)) (fun r A q => QC_c q) (fun r iv1 rv1 q => ?_)
  obtain ⟨iv2, rv2, eA, q⟩ := q
  obtain ⟨eI, eR⟩ := mkC_inj eA
  subst eI; subst eR
  refine y_ld2 X (dL 403) ?_
  refine y_arg X (dL 404) (dL 405) (dL 406) (dL 407) (dL 408) (hin 1 (by decide) (by decide)) ?_
  refine y_arg X (dL 409) (dL 410) (dL 411) (dL 412) (dL 413) (hin 2 (by decide) (by decide)) ?_
  refine y_callM (As := [vi (ai xs i 1), vi (ai xs i 2)]) X (dL 414) lkL_76 rfl (rcat _) (Nat.le_of_ble_eq_true rfl) (zin_cons.mpr ⟨z32 _, zin_cons.mpr ⟨z32 _, zin_nil⟩⟩) rfl q (fun r A q => QM_m q) (fun r1 mv1 q => ?_)
  obtain ⟨x, rfl, rfl, hR⟩ := QM_x q
  exact y_eq X (dL 415) (by decide) (kk _ _ _ hR)
set_option maxRecDepth 20000 in
theorem case_13 {p : Program} {l : Launch} {e : Env} {s : State} {m : MethodId} {below : List Frame} {meth : Method} {c : Code} {b L : Nat} {xs : Nat → Int32} {G1 G2 : ZG} {i : Int32} {iv mv : Nat → Nat → Int} {rv : Nat → Nat → Option Nat} {B : Int} (X : LX p s m meth c b L xs G1 G2) (h : RL B iv rv mv) (hB : 0 ≤ B ∧ B ≤ 10000000) (hin : ∀ k : Int, 0 ≤ k → k ≤ 5 → vp_in (i + Int32.ofInt k) L) (kk : ∀ iv1 rv1 mv1, RL (B + 1000) iv1 rv1 mv1 → Lw p l e s m below meth c b G1 G2 i 1551 [] iv1 rv1 mv1) : Lw p l e s m below meth c b G1 G2 i 712 [] iv rv mv := by
  refine y_ld1 X (dL 418) ?_
  refine y_arg X (dL 419) (dL 420) (dL 421) (dL 422) (dL 423) (hin 1 (by decide) (by decide)) ?_
  refine y_arg X (dL 424) (dL 425) (dL 426) (dL 427) (dL 428) (hin 2 (by decide) (by decide)) ?_
  refine y_callC (st := []) (As := [vi (ai xs i 1), vi (ai xs i 2)]) X (dL 429) lkL_77 rfl (by decide) (Nat.le_of_ble_eq_true rfl) (zin_cons.mpr ⟨z32 _, zin_cons.mpr ⟨z32 _, zin_nil⟩⟩) rfl (P_place (G' := G2) h hB (z32 _) (z32 _)) (fun r A q => QC_c q) (fun r iv1 rv1 q => ?_)
  obtain ⟨iv2, rv2, eA, q⟩ := q
  obtain ⟨eI, eR⟩ := mkC_inj eA
  subst eI; subst eR
  refine y_ld2 X (dL 430) ?_
  refine y_arg X (dL 431) (dL 432) (dL 433) (dL 434) (dL 435) (hin 1 (by decide) (by decide)) ?_
  refine y_arg X (dL 436) (dL 437) (dL 438) (dL 439) (dL 440) (hin 2 (by decide) (by decide)) ?_
  refine y_callM (As := [vi (ai xs i 1), vi (ai xs i 2)]) X (dL 441) lkL_80 rfl (rcat _) (Nat.le_of_ble_eq_true rfl) (zin_cons.mpr ⟨z32 _, zin_cons.mpr ⟨z32 _, zin_nil⟩⟩) rfl q (fun r A q => QM_m q) (fun r1 mv1 q => ?_)
  obtain ⟨x, rfl, rfl, hR⟩ := QM_x q
  exact y_eq X (dL 442) (by decide) (kk _ _ _ hR)
set_option maxRecDepth 20000 in
theorem case_14 {p : Program} {l : Launch} {e : Env} {s : State} {m : MethodId} {below : List Frame} {meth : Method} {c : Code} {b L : Nat} {xs : Nat → Int32} {G1 G2 : ZG} {i : Int32} {iv mv : Nat → Nat → Int} {rv : Nat → Nat → Option Nat} {B : Int} (X : LX p s m meth c b L xs G1 G2) (h : RL B iv rv mv) (hB : 0 ≤ B ∧ B ≤ 10000000) (hin : ∀ k : Int, 0 ≤ k → k ≤ 5 → vp_in (i + Int32.ofInt k) L) (kk : ∀ iv1 rv1 mv1, RL (B + 1000) iv1 rv1 mv1 → Lw p l e s m below meth c b G1 G2 i 1551 [] iv1 rv1 mv1) : Lw p l e s m below meth c b G1 G2 i 745 [] iv rv mv := by
  refine y_ld1 X (dL 445) ?_
  refine y_arg X (dL 446) (dL 447) (dL 448) (dL 449) (dL 450) (hin 1 (by decide) (by decide)) ?_
  refine y_callC (st := []) (As := [vi (ai xs i 1)]) X (dL 451) lkL_81 rfl (by decide) (Nat.le_of_ble_eq_true rfl) (zin_cons.mpr ⟨z32 _, zin_nil⟩) rfl (P_room (G' := G2) h hB (z32 _)) (fun r A q => QC_c q) (fun r iv1 rv1 q => ?_)
  obtain ⟨iv2, rv2, eA, q⟩ := q
  obtain ⟨eI, eR⟩ := mkC_inj eA
  subst eI; subst eR
  refine y_ld2 X (dL 452) ?_
  refine y_arg X (dL 453) (dL 454) (dL 455) (dL 456) (dL 457) (hin 1 (by decide) (by decide)) ?_
  refine y_callM (As := [vi (ai xs i 1)]) X (dL 458) lkL_84 rfl (rcat _) (Nat.le_of_ble_eq_true rfl) (zin_cons.mpr ⟨z32 _, zin_nil⟩) rfl q (fun r A q => QM_m q) (fun r1 mv1 q => ?_)
  obtain ⟨x, rfl, rfl, hR⟩ := QM_x q
  exact y_eq X (dL 459) (by decide) (kk _ _ _ hR)
set_option maxRecDepth 20000 in
theorem case_15 {p : Program} {l : Launch} {e : Env} {s : State} {m : MethodId} {below : List Frame} {meth : Method} {c : Code} {b L : Nat} {xs : Nat → Int32} {G1 G2 : ZG} {i : Int32} {iv mv : Nat → Nat → Int} {rv : Nat → Nat → Option Nat} {B : Int} (X : LX p s m meth c b L xs G1 G2) (h : RL B iv rv mv) (hB : 0 ≤ B ∧ B ≤ 10000000) (hin : ∀ k : Int, 0 ≤ k → k ≤ 5 → vp_in (i + Int32.ofInt k) L) (kk : ∀ iv1 rv1 mv1, RL (B + 1000) iv1 rv1 mv1 → Lw p l e s m below meth c b G1 G2 i 1551 [] iv1 rv1 mv1) : Lw p l e s m below meth c b G1 G2 i 768 [] iv rv mv := by
  refine y_ld1 X (dL 462) ?_
  refine y_arg X (dL 463) (dL 464) (dL 465) (dL 466) (dL 467) (hin 1 (by decide) (by decide)) ?_
  refine y_arg X (dL 468) (dL 469) (dL 470) (dL 471) (dL 472) (hin 2 (by decide) (by decide)) ?_
  refine y_callC (st := []) (As := [vi (ai xs i 1), vi (ai xs i 2)]) X (dL 473) lkL_85 rfl (by decide) (Nat.le_of_ble_eq_true rfl) (zin_cons.mpr ⟨z32 _, zin_cons.mpr ⟨z32 _, zin_nil⟩⟩) rfl (P_tight (G' := G2) h hB (z32 _) (z32 _)) (fun r A q => QC_c q) (fun r iv1 rv1 q => ?_)
  obtain ⟨iv2, rv2, eA, q⟩ := q
  obtain ⟨eI, eR⟩ := mkC_inj eA
  subst eI; subst eR
  refine y_ld2 X (dL 474) ?_
  refine y_arg X (dL 475) (dL 476) (dL 477) (dL 478) (dL 479) (hin 1 (by decide) (by decide)) ?_
  refine y_arg X (dL 480) (dL 481) (dL 482) (dL 483) (dL 484) (hin 2 (by decide) (by decide)) ?_
  refine y_callM (As := [vi (ai xs i 1), vi (ai xs i 2)]) X (dL 485) lkL_88 rfl (rcat _) (Nat.le_of_ble_eq_true rfl) (zin_cons.mpr ⟨z32 _, zin_cons.mpr ⟨z32 _, zin_nil⟩⟩) rfl q (fun r A q => QM_m q) (fun r1 mv1 q => ?_)
  obtain ⟨x, rfl, rfl, hR⟩ := QM_x q
  exact y_eq X (dL 486) (by decide) (kk _ _ _ hR)
set_option maxRecDepth 20000 in
theorem case_16 {p : Program} {l : Launch} {e : Env} {s : State} {m : MethodId} {below : List Frame} {meth : Method} {c : Code} {b L : Nat} {xs : Nat → Int32} {G1 G2 : ZG} {i : Int32} {iv mv : Nat → Nat → Int} {rv : Nat → Nat → Option Nat} {B : Int} (X : LX p s m meth c b L xs G1 G2) (h : RL B iv rv mv) (hB : 0 ≤ B ∧ B ≤ 10000000) (hin : ∀ k : Int, 0 ≤ k → k ≤ 5 → vp_in (i + Int32.ofInt k) L) (kk : ∀ iv1 rv1 mv1, RL (B + 1000) iv1 rv1 mv1 → Lw p l e s m below meth c b G1 G2 i 1551 [] iv1 rv1 mv1) : Lw p l e s m below meth c b G1 G2 i 801 [] iv rv mv := by
  refine y_ld1 X (dL 489) ?_
  refine y_arg X (dL 490) (dL 491) (dL 492) (dL 493) (dL 494) (hin 1 (by decide) (by decide)) ?_
  refine y_callC (st := []) (As := [vi (ai xs i 1)]) X (dL 495) lkL_89 rfl (by decide) (Nat.le_of_ble_eq_true rfl) (zin_cons.mpr ⟨z32 _, zin_nil⟩) rfl (P_cannot (G' := G2) h hB (z32 _)) (fun r A q => QC_c q) (fun r iv1 rv1 q => ?_)
  obtain ⟨iv2, rv2, eA, q⟩ := q
  obtain ⟨eI, eR⟩ := mkC_inj eA
  subst eI; subst eR
  refine y_ld2 X (dL 496) ?_
  refine y_arg X (dL 497) (dL 498) (dL 499) (dL 500) (dL 501) (hin 1 (by decide) (by decide)) ?_
  refine y_callM (As := [vi (ai xs i 1)]) X (dL 502) lkL_92 rfl (rcat _) (Nat.le_of_ble_eq_true rfl) (zin_cons.mpr ⟨z32 _, zin_nil⟩) rfl q (fun r A q => QM_m q) (fun r1 mv1 q => ?_)
  obtain ⟨x, rfl, rfl, hR⟩ := QM_x q
  exact y_eq X (dL 503) (by decide) (kk _ _ _ hR)
set_option maxRecDepth 20000 in
theorem case_17 {p : Program} {l : Launch} {e : Env} {s : State} {m : MethodId} {below : List Frame} {meth : Method} {c : Code} {b L : Nat} {xs : Nat → Int32} {G1 G2 : ZG} {i : Int32} {iv mv : Nat → Nat → Int} {rv : Nat → Nat → Option Nat} {B : Int} (X : LX p s m meth c b L xs G1 G2) (h : RL B iv rv mv) (hB : 0 ≤ B ∧ B ≤ 10000000) (hin : ∀ k : Int, 0 ≤ k → k ≤ 5 → vp_in (i + Int32.ofInt k) L) (kk : ∀ iv1 rv1 mv1, RL (B + 1000) iv1 rv1 mv1 → Lw p l e s m below meth c b G1 G2 i 1551 [] iv1 rv1 mv1) : Lw p l e s m below meth c b G1 G2 i 824 [] iv rv mv := by
  refine y_ld1 X (dL 506) ?_
  refine y_arg X (dL 507) (dL 508) (dL 509) (dL 510) (dL 511) (hin 1 (by decide) (by decide)) ?_
  refine y_callC (st := []) (As := [vi (ai xs i 1)]) X (dL 512) lkL_93 rfl (by decide) (Nat.le_of_ble_eq_true rfl) (zin_cons.mpr ⟨z32 _, zin_nil⟩) rfl (P_softer (G' := G2) h hB (z32 _)) (fun r A q => QC_c q) (fun r iv1 rv1 q => ?_)
  obtain ⟨iv2, rv2, eA, q⟩ := q
  obtain ⟨eI, eR⟩ := mkC_inj eA
  subst eI; subst eR
  refine y_ld2 X (dL 513) ?_
  refine y_arg X (dL 514) (dL 515) (dL 516) (dL 517) (dL 518) (hin 1 (by decide) (by decide)) ?_
  refine y_callM (As := [vi (ai xs i 1)]) X (dL 519) lkL_96 rfl (rcat _) (Nat.le_of_ble_eq_true rfl) (zin_cons.mpr ⟨z32 _, zin_nil⟩) rfl q (fun r A q => QM_m q) (fun r1 mv1 q => ?_)
  obtain ⟨x, rfl, rfl, hR⟩ := QM_x q
  exact y_eq X (dL 520) (by decide) (kk _ _ _ hR)
set_option maxRecDepth 20000 in
theorem case_18 {p : Program} {l : Launch} {e : Env} {s : State} {m : MethodId} {below : List Frame} {meth : Method} {c : Code} {b L : Nat} {xs : Nat → Int32} {G1 G2 : ZG} {i : Int32} {iv mv : Nat → Nat → Int} {rv : Nat → Nat → Option Nat} {B : Int} (X : LX p s m meth c b L xs G1 G2) (h : RL B iv rv mv) (hB : 0 ≤ B ∧ B ≤ 10000000) (hin : ∀ k : Int, 0 ≤ k → k ≤ 5 → vp_in (i + Int32.ofInt k) L) (kk : ∀ iv1 rv1 mv1, RL (B + 1000) iv1 rv1 mv1 → Lw p l e s m below meth c b G1 G2 i 1551 [] iv1 rv1 mv1) : Lw p l e s m below meth c b G1 G2 i 847 [] iv rv mv := by
  refine y_ld1 X (dL 523) ?_
  refine y_arg X (dL 524) (dL 525) (dL 526) (dL 527) (dL 528) (hin 1 (by decide) (by decide)) ?_
  refine y_arg X (dL 529) (dL 530) (dL 531) (dL 532) (dL 533) (hin 2 (by decide) (by decide)) ?_
  refine y_callC (st := []) (As := [vi (ai xs i 1), vi (ai xs i 2)]) X (dL 534) lkL_97 rfl (by decide) (Nat.le_of_ble_eq_true rfl) (zin_cons.mpr ⟨z32 _, zin_cons.mpr ⟨z32 _, zin_nil⟩⟩) rfl (P_soften (G' := G2) h hB (z32 _) (z32 _)) (fun r A q => QC_c q) (fun r iv1 rv1 q => ?_)
  obtain ⟨iv2, rv2, eA, q⟩ := q
  obtain ⟨eI, eR⟩ := mkC_inj eA
  subst eI; subst eR
  refine y_ld2 X (dL 535) ?_
  refine y_arg X (dL 536) (dL 537) (dL 538) (dL 539) (dL 540) (hin 1 (by decide) (by decide)) ?_
  refine y_arg X (dL 541) (dL 542) (dL 543) (dL 544) (dL 545) (hin 2 (by decide) (by decide)) ?_
  refine y_callM (As := [vi (ai xs i 1), vi (ai xs i 2)]) X (dL 546) lkL_100 rfl (rcat _) (Nat.le_of_ble_eq_true rfl) (zin_cons.mpr ⟨z32 _, zin_cons.mpr ⟨z32 _, zin_nil⟩⟩) rfl q (fun r A q => QM_m q) (fun r1 mv1 q => ?_)
  obtain ⟨x, rfl, rfl, hR⟩ := QM_x q
  exact y_eq X (dL 547) (by decide) (kk _ _ _ hR)
set_option maxRecDepth 20000 in
theorem case_19 {p : Program} {l : Launch} {e : Env} {s : State} {m : MethodId} {below : List Frame} {meth : Method} {c : Code} {b L : Nat} {xs : Nat → Int32} {G1 G2 : ZG} {i : Int32} {iv mv : Nat → Nat → Int} {rv : Nat → Nat → Option Nat} {B : Int} (X : LX p s m meth c b L xs G1 G2) (h : RL B iv rv mv) (hB : 0 ≤ B ∧ B ≤ 10000000) (hin : ∀ k : Int, 0 ≤ k → k ≤ 5 → vp_in (i + Int32.ofInt k) L) (kk : ∀ iv1 rv1 mv1, RL (B + 1000) iv1 rv1 mv1 → Lw p l e s m below meth c b G1 G2 i 1551 [] iv1 rv1 mv1) : Lw p l e s m below meth c b G1 G2 i 880 [] iv rv mv := by
  refine y_ld1 X (dL 550) ?_
  refine y_arg X (dL 551) (dL 552) (dL 553) (dL 554) (dL 555) (hin 1 (by decide) (by decide)) ?_
  refine y_callC (st := []) (As := [vi (ai xs i 1)]) X (dL 556) lkL_101 rfl (by decide) (Nat.le_of_ble_eq_true rfl) (zin_cons.mpr ⟨z32 _, zin_nil⟩) rfl (P_most (G' := G2) h hB (z32 _)) (fun r A q => QC_c q) (fun r iv1 rv1 q => ?_)
  obtain ⟨iv2, rv2, eA, q⟩ := q
  obtain ⟨eI, eR⟩ := mkC_inj eA
  subst eI; subst eR
  refine y_ld2 X (dL 557) ?_
  refine y_arg X (dL 558) (dL 559) (dL 560) (dL 561) (dL 562) (hin 1 (by decide) (by decide)) ?_
  refine y_callM (As := [vi (ai xs i 1)]) X (dL 563) lkL_104 rfl (rcat _) (Nat.le_of_ble_eq_true rfl) (zin_cons.mpr ⟨z32 _, zin_nil⟩) rfl q (fun r A q => QM_m q) (fun r1 mv1 q => ?_)
  obtain ⟨x, rfl, rfl, hR⟩ := QM_x q
  exact y_eq X (dL 564) (by decide) (kk _ _ _ hR)
set_option maxRecDepth 20000 in
theorem case_20 {p : Program} {l : Launch} {e : Env} {s : State} {m : MethodId} {below : List Frame} {meth : Method} {c : Code} {b L : Nat} {xs : Nat → Int32} {G1 G2 : ZG} {i : Int32} {iv mv : Nat → Nat → Int} {rv : Nat → Nat → Option Nat} {B : Int} (X : LX p s m meth c b L xs G1 G2) (h : RL B iv rv mv) (hB : 0 ≤ B ∧ B ≤ 10000000) (hin : ∀ k : Int, 0 ≤ k → k ≤ 5 → vp_in (i + Int32.ofInt k) L) (kk : ∀ iv1 rv1 mv1, RL (B + 1000) iv1 rv1 mv1 → Lw p l e s m below meth c b G1 G2 i 1551 [] iv1 rv1 mv1) : Lw p l e s m below meth c b G1 G2 i 903 [] iv rv mv := by
  refine y_ld1 X (dL 567) ?_
  refine y_callC (st := []) (As := []) X (dL 568) lkL_105 rfl (by decide) (Nat.le_of_ble_eq_true rfl) (zin_nil) rfl (P_order (G' := G2) h hB) (fun r A q => QC_c q) (fun r iv1 rv1 q => ?_)
  obtain ⟨iv2, rv2, eA, q⟩ := q
  obtain ⟨eI, eR⟩ := mkC_inj eA
  subst eI; subst eR
  refine y_ld2 X (dL 569) ?_
  refine y_callM (As := []) X (dL 570) lkL_108 rfl (rcat _) (Nat.le_of_ble_eq_true rfl) (zin_nil) rfl q (fun r A q => QM_m q) (fun r1 mv1 q => ?_)
  obtain ⟨x, rfl, rfl, hR⟩ := QM_x q
  exact y_eq X (dL 571) (by decide) (kk _ _ _ hR)
set_option maxRecDepth 20000 in
theorem case_21 {p : Program} {l : Launch} {e : Env} {s : State} {m : MethodId} {below : List Frame} {meth : Method} {c : Code} {b L : Nat} {xs : Nat → Int32} {G1 G2 : ZG} {i : Int32} {iv mv : Nat → Nat → Int} {rv : Nat → Nat → Option Nat} {B : Int} (X : LX p s m meth c b L xs G1 G2) (h : RL B iv rv mv) (hB : 0 ≤ B ∧ B ≤ 10000000) (hin : ∀ k : Int, 0 ≤ k → k ≤ 5 → vp_in (i + Int32.ofInt k) L) (kk : ∀ iv1 rv1 mv1, RL (B + 1000) iv1 rv1 mv1 → Lw p l e s m below meth c b G1 G2 i 1551 [] iv1 rv1 mv1) : Lw p l e s m below meth c b G1 G2 i 916 [] iv rv mv := by
  refine y_ld1 X (dL 574) ?_
  refine y_arg X (dL 575) (dL 576) (dL 577) (dL 578) (dL 579) (hin 1 (by decide) (by decide)) ?_
  refine y_callC (st := []) (As := [vi (ai xs i 1)]) X (dL 580) lkL_109 rfl (by decide) (Nat.le_of_ble_eq_true rfl) (zin_cons.mpr ⟨z32 _, zin_nil⟩) rfl (P_sideOf (G' := G2) h hB (z32 _)) (fun r A q => QC_c q) (fun r iv1 rv1 q => ?_)
  obtain ⟨iv2, rv2, eA, q⟩ := q
  obtain ⟨eI, eR⟩ := mkC_inj eA
  subst eI; subst eR
  refine y_ld2 X (dL 581) ?_
  refine y_arg X (dL 582) (dL 583) (dL 584) (dL 585) (dL 586) (hin 1 (by decide) (by decide)) ?_
  refine y_callM (As := [vi (ai xs i 1)]) X (dL 587) lkL_112 rfl (rcat _) (Nat.le_of_ble_eq_true rfl) (zin_cons.mpr ⟨z32 _, zin_nil⟩) rfl q (fun r A q => QM_m q) (fun r1 mv1 q => ?_)
  obtain ⟨x, rfl, rfl, hR⟩ := QM_x q
  exact y_eq X (dL 588) (by decide) (kk _ _ _ hR)
set_option maxRecDepth 20000 in
theorem case_22 {p : Program} {l : Launch} {e : Env} {s : State} {m : MethodId} {below : List Frame} {meth : Method} {c : Code} {b L : Nat} {xs : Nat → Int32} {G1 G2 : ZG} {i : Int32} {iv mv : Nat → Nat → Int} {rv : Nat → Nat → Option Nat} {B : Int} (X : LX p s m meth c b L xs G1 G2) (h : RL B iv rv mv) (hB : 0 ≤ B ∧ B ≤ 10000000) (hin : ∀ k : Int, 0 ≤ k → k ≤ 5 → vp_in (i + Int32.ofInt k) L) (kk : ∀ iv1 rv1 mv1, RL (B + 1000) iv1 rv1 mv1 → Lw p l e s m below meth c b G1 G2 i 1551 [] iv1 rv1 mv1) : Lw p l e s m below meth c b G1 G2 i 939 [] iv rv mv := by
  refine y_ld1 X (dL 591) ?_
  refine y_arg X (dL 592) (dL 593) (dL 594) (dL 595) (dL 596) (hin 1 (by decide) (by decide)) ?_
  refine y_arg X (dL 597) (dL 598) (dL 599) (dL 600) (dL 601) (hin 2 (by decide) (by decide)) ?_
  refine y_callC (st := []) (As := [vi (ai xs i 1), vi (ai xs i 2)]) X (dL 602) lkL_113 rfl (by decide) (Nat.le_of_ble_eq_true rfl) (zin_cons.mpr ⟨z32 _, zin_cons.mpr ⟨z32 _, zin_nil⟩⟩) rfl (P_songAt (G' := G2) h hB (z32 _) (z32 _)) (fun r A q => QC_c q) (fun r iv1 rv1 q => ?_)
  obtain ⟨iv2, rv2, eA, q⟩ := q
  obtain ⟨eI, eR⟩ := mkC_inj eA
  subst eI; subst eR
  refine y_ld2 X (dL 603) ?_
  refine y_arg X (dL 604) (dL 605) (dL 606) (dL 607) (dL 608) (hin 1 (by decide) (by decide)) ?_
  refine y_arg X (dL 609) (dL 610) (dL 611) (dL 612) (dL 613) (hin 2 (by decide) (by decide)) ?_
  refine y_callM (As := [vi (ai xs i 1), vi (ai xs i 2)]) X (dL 614) lkL_116 rfl (rcat _) (Nat.le_of_ble_eq_true rfl) (zin_cons.mpr ⟨z32 _, zin_cons.mpr ⟨z32 _, zin_nil⟩⟩) rfl q (fun r A q => QM_m q) (fun r1 mv1 q => ?_)
  obtain ⟨x, rfl, rfl, hR⟩ := QM_x q
  exact y_eq X (dL 615) (by decide) (kk _ _ _ hR)
set_option maxRecDepth 20000 in
theorem case_23 {p : Program} {l : Launch} {e : Env} {s : State} {m : MethodId} {below : List Frame} {meth : Method} {c : Code} {b L : Nat} {xs : Nat → Int32} {G1 G2 : ZG} {i : Int32} {iv mv : Nat → Nat → Int} {rv : Nat → Nat → Option Nat} {B : Int} (X : LX p s m meth c b L xs G1 G2) (h : RL B iv rv mv) (hB : 0 ≤ B ∧ B ≤ 10000000) (hin : ∀ k : Int, 0 ≤ k → k ≤ 5 → vp_in (i + Int32.ofInt k) L) (kk : ∀ iv1 rv1 mv1, RL (B + 1000) iv1 rv1 mv1 → Lw p l e s m below meth c b G1 G2 i 1551 [] iv1 rv1 mv1) : Lw p l e s m below meth c b G1 G2 i 972 [] iv rv mv := by
  refine y_ld1 X (dL 618) ?_
  refine y_callC (st := []) (As := []) X (dL 619) lkL_117 rfl (by decide) (Nat.le_of_ble_eq_true rfl) (zin_nil) rfl (P_press (G' := G2) h hB) (fun r A q => QC_c q) (fun r iv1 rv1 q => ?_)
  obtain ⟨iv2, rv2, eA, q⟩ := q
  obtain ⟨eI, eR⟩ := mkC_inj eA
  subst eI; subst eR
  refine y_ld2 X (dL 620) ?_
  refine y_callM (As := []) X (dL 621) lkL_121 rfl (rcat _) (Nat.le_of_ble_eq_true rfl) (zin_nil) rfl q (fun r A q => QM_m q) (fun r1 mv1 q => ?_)
  obtain ⟨x, rfl, rfl, hR⟩ := QM_x q
  exact y_eq X (dL 622) (by decide) (kk _ _ _ hR)
set_option maxRecDepth 20000 in
theorem case_24 {p : Program} {l : Launch} {e : Env} {s : State} {m : MethodId} {below : List Frame} {meth : Method} {c : Code} {b L : Nat} {xs : Nat → Int32} {G1 G2 : ZG} {i : Int32} {iv mv : Nat → Nat → Int} {rv : Nat → Nat → Option Nat} {B : Int} (X : LX p s m meth c b L xs G1 G2) (h : RL B iv rv mv) (hB : 0 ≤ B ∧ B ≤ 10000000) (hin : ∀ k : Int, 0 ≤ k → k ≤ 5 → vp_in (i + Int32.ofInt k) L) (kk : ∀ iv1 rv1 mv1, RL (B + 1000) iv1 rv1 mv1 → Lw p l e s m below meth c b G1 G2 i 1551 [] iv1 rv1 mv1) : Lw p l e s m below meth c b G1 G2 i 985 [] iv rv mv := by
  refine y_ld1 X (dL 625) ?_
  refine y_arg X (dL 626) (dL 627) (dL 628) (dL 629) (dL 630) (hin 1 (by decide) (by decide)) ?_
  refine y_arg X (dL 631) (dL 632) (dL 633) (dL 634) (dL 635) (hin 2 (by decide) (by decide)) ?_
  refine y_callC (st := []) (As := [vi (ai xs i 1), vi (ai xs i 2)]) X (dL 636) lkL_122 rfl (by decide) (Nat.le_of_ble_eq_true rfl) (zin_cons.mpr ⟨z32 _, zin_cons.mpr ⟨z32 _, zin_nil⟩⟩) rfl (P_ring (G' := G2) h hB (z32 _) (z32 _)) (fun r A q => QC_c q) (fun r iv1 rv1 q => ?_)
  obtain ⟨iv2, rv2, eA, q⟩ := q
  obtain ⟨eI, eR⟩ := mkC_inj eA
  subst eI; subst eR
  refine y_ld2 X (dL 637) ?_
  refine y_arg X (dL 638) (dL 639) (dL 640) (dL 641) (dL 642) (hin 1 (by decide) (by decide)) ?_
  refine y_arg X (dL 643) (dL 644) (dL 645) (dL 646) (dL 647) (hin 2 (by decide) (by decide)) ?_
  refine y_callM (As := [vi (ai xs i 1), vi (ai xs i 2)]) X (dL 648) lkL_125 rfl (rcat _) (Nat.le_of_ble_eq_true rfl) (zin_cons.mpr ⟨z32 _, zin_cons.mpr ⟨z32 _, zin_nil⟩⟩) rfl q (fun r A q => QM_m q) (fun r1 mv1 q => ?_)
  obtain ⟨x, rfl, rfl, hR⟩ := QM_x q
  exact y_eq X (dL 649) (by decide) (kk _ _ _ hR)
set_option maxRecDepth 20000 in
theorem case_25 {p : Program} {l : Launch} {e : Env} {s : State} {m : MethodId} {below : List Frame} {meth : Method} {c : Code} {b L : Nat} {xs : Nat → Int32} {G1 G2 : ZG} {i : Int32} {iv mv : Nat → Nat → Int} {rv : Nat → Nat → Option Nat} {B : Int} (X : LX p s m meth c b L xs G1 G2) (h : RL B iv rv mv) (hB : 0 ≤ B ∧ B ≤ 10000000) (hin : ∀ k : Int, 0 ≤ k → k ≤ 5 → vp_in (i + Int32.ofInt k) L) (kk : ∀ iv1 rv1 mv1, RL (B + 1000) iv1 rv1 mv1 → Lw p l e s m below meth c b G1 G2 i 1551 [] iv1 rv1 mv1) : Lw p l e s m below meth c b G1 G2 i 1018 [] iv rv mv := by
  refine y_ld1 X (dL 652) ?_
  refine y_arg X (dL 653) (dL 654) (dL 655) (dL 656) (dL 657) (hin 1 (by decide) (by decide)) ?_
  refine y_callC (st := []) (As := [vi (ai xs i 1)]) X (dL 658) lkL_126 rfl (by decide) (Nat.le_of_ble_eq_true rfl) (zin_cons.mpr ⟨z32 _, zin_nil⟩) rfl (P_inTime (G' := G2) h hB (z32 _)) (fun r A q => QC_c q) (fun r iv1 rv1 q => ?_)
  obtain ⟨iv2, rv2, eA, q⟩ := q
  obtain ⟨eI, eR⟩ := mkC_inj eA
  subst eI; subst eR
  refine y_ld2 X (dL 659) ?_
  refine y_arg X (dL 660) (dL 661) (dL 662) (dL 663) (dL 664) (hin 1 (by decide) (by decide)) ?_
  refine y_callM (As := [vi (ai xs i 1)]) X (dL 665) lkL_129 rfl (rcat _) (Nat.le_of_ble_eq_true rfl) (zin_cons.mpr ⟨z32 _, zin_nil⟩) rfl q (fun r A q => QM_m q) (fun r1 mv1 q => ?_)
  obtain ⟨x, rfl, rfl, hR⟩ := QM_x q
  exact y_eq X (dL 666) (by decide) (kk _ _ _ hR)
set_option maxRecDepth 20000 in
theorem case_26 {p : Program} {l : Launch} {e : Env} {s : State} {m : MethodId} {below : List Frame} {meth : Method} {c : Code} {b L : Nat} {xs : Nat → Int32} {G1 G2 : ZG} {i : Int32} {iv mv : Nat → Nat → Int} {rv : Nat → Nat → Option Nat} {B : Int} (X : LX p s m meth c b L xs G1 G2) (h : RL B iv rv mv) (hB : 0 ≤ B ∧ B ≤ 10000000) (hin : ∀ k : Int, 0 ≤ k → k ≤ 5 → vp_in (i + Int32.ofInt k) L) (kk : ∀ iv1 rv1 mv1, RL (B + 1000) iv1 rv1 mv1 → Lw p l e s m below meth c b G1 G2 i 1551 [] iv1 rv1 mv1) : Lw p l e s m below meth c b G1 G2 i 1041 [] iv rv mv := by
  refine y_ld1 X (dL 669) ?_
  refine y_arg X (dL 670) (dL 671) (dL 672) (dL 673) (dL 674) (hin 1 (by decide) (by decide)) ?_
  refine y_arg X (dL 675) (dL 676) (dL 677) (dL 678) (dL 679) (hin 2 (by decide) (by decide)) ?_
  refine y_callC (st := []) (As := [vi (ai xs i 1), vi (ai xs i 2)]) X (dL 680) lkL_130 rfl (by decide) (Nat.le_of_ble_eq_true rfl) (zin_cons.mpr ⟨z32 _, zin_cons.mpr ⟨z32 _, zin_nil⟩⟩) rfl (P_click (G' := G2) h hB (z32 _) (z32 _)) (fun r A q => QC_c q) (fun r iv1 rv1 q => ?_)
  obtain ⟨iv2, rv2, eA, q⟩ := q
  obtain ⟨eI, eR⟩ := mkC_inj eA
  subst eI; subst eR
  refine y_ld2 X (dL 681) ?_
  refine y_arg X (dL 682) (dL 683) (dL 684) (dL 685) (dL 686) (hin 1 (by decide) (by decide)) ?_
  refine y_arg X (dL 687) (dL 688) (dL 689) (dL 690) (dL 691) (hin 2 (by decide) (by decide)) ?_
  refine y_callM (As := [vi (ai xs i 1), vi (ai xs i 2)]) X (dL 692) lkL_133 rfl (rcat _) (Nat.le_of_ble_eq_true rfl) (zin_cons.mpr ⟨z32 _, zin_cons.mpr ⟨z32 _, zin_nil⟩⟩) rfl q (fun r A q => QM_m q) (fun r1 mv1 q => ?_)
  obtain ⟨x, rfl, rfl, hR⟩ := QM_x q
  exact y_eq X (dL 693) (by decide) (kk _ _ _ hR)
set_option maxRecDepth 20000 in
theorem case_27 {p : Program} {l : Launch} {e : Env} {s : State} {m : MethodId} {below : List Frame} {meth : Method} {c : Code} {b L : Nat} {xs : Nat → Int32} {G1 G2 : ZG} {i : Int32} {iv mv : Nat → Nat → Int} {rv : Nat → Nat → Option Nat} {B : Int} (X : LX p s m meth c b L xs G1 G2) (h : RL B iv rv mv) (hB : 0 ≤ B ∧ B ≤ 10000000) (hin : ∀ k : Int, 0 ≤ k → k ≤ 5 → vp_in (i + Int32.ofInt k) L) (kk : ∀ iv1 rv1 mv1, RL (B + 1000) iv1 rv1 mv1 → Lw p l e s m below meth c b G1 G2 i 1551 [] iv1 rv1 mv1) : Lw p l e s m below meth c b G1 G2 i 1074 [] iv rv mv := by
  refine y_ld1 X (dL 696) ?_
  refine y_callC (st := []) (As := []) X (dL 697) lkL_134 rfl (by decide) (Nat.le_of_ble_eq_true rfl) (zin_nil) rfl (P_clean (G' := G2) h hB) (fun r A q => QC_c q) (fun r iv1 rv1 q => ?_)
  obtain ⟨iv2, rv2, eA, q⟩ := q
  obtain ⟨eI, eR⟩ := mkC_inj eA
  subst eI; subst eR
  refine y_ld2 X (dL 698) ?_
  refine y_callM (As := []) X (dL 699) lkL_137 rfl (rcat _) (Nat.le_of_ble_eq_true rfl) (zin_nil) rfl q (fun r A q => QM_m q) (fun r1 mv1 q => ?_)
  obtain ⟨x, rfl, rfl, hR⟩ := QM_x q
  exact y_eq X (dL 700) (by decide) (kk _ _ _ hR)
set_option maxRecDepth 20000 in
theorem case_28 {p : Program} {l : Launch} {e : Env} {s : State} {m : MethodId} {below : List Frame} {meth : Method} {c : Code} {b L : Nat} {xs : Nat → Int32} {G1 G2 : ZG} {i : Int32} {iv mv : Nat → Nat → Int} {rv : Nat → Nat → Option Nat} {B : Int} (X : LX p s m meth c b L xs G1 G2) (h : RL B iv rv mv) (hB : 0 ≤ B ∧ B ≤ 10000000) (hin : ∀ k : Int, 0 ≤ k → k ≤ 5 → vp_in (i + Int32.ofInt k) L) (kk : ∀ iv1 rv1 mv1, RL (B + 1000) iv1 rv1 mv1 → Lw p l e s m below meth c b G1 G2 i 1551 [] iv1 rv1 mv1) : Lw p l e s m below meth c b G1 G2 i 1087 [] iv rv mv := by
  refine y_ld1 X (dL 703) ?_
  refine y_callC (st := []) (As := []) X (dL 704) lkL_138 rfl (by decide) (Nat.le_of_ble_eq_true rfl) (zin_nil) rfl (P_longest (G' := G2) h hB) (fun r A q => QC_c q) (fun r iv1 rv1 q => ?_)
  obtain ⟨iv2, rv2, eA, q⟩ := q
  obtain ⟨eI, eR⟩ := mkC_inj eA
  subst eI; subst eR
  refine y_ld2 X (dL 705) ?_
  refine y_callM (As := []) X (dL 706) lkL_141 rfl (rcat _) (Nat.le_of_ble_eq_true rfl) (zin_nil) rfl q (fun r A q => QM_m q) (fun r1 mv1 q => ?_)
  obtain ⟨x, rfl, rfl, hR⟩ := QM_x q
  exact y_eq X (dL 707) (by decide) (kk _ _ _ hR)
set_option maxRecDepth 20000 in
theorem case_29 {p : Program} {l : Launch} {e : Env} {s : State} {m : MethodId} {below : List Frame} {meth : Method} {c : Code} {b L : Nat} {xs : Nat → Int32} {G1 G2 : ZG} {i : Int32} {iv mv : Nat → Nat → Int} {rv : Nat → Nat → Option Nat} {B : Int} (X : LX p s m meth c b L xs G1 G2) (h : RL B iv rv mv) (hB : 0 ≤ B ∧ B ≤ 10000000) (hin : ∀ k : Int, 0 ≤ k → k ≤ 5 → vp_in (i + Int32.ofInt k) L) (kk : ∀ iv1 rv1 mv1, RL (B + 1000) iv1 rv1 mv1 → Lw p l e s m below meth c b G1 G2 i 1551 [] iv1 rv1 mv1) : Lw p l e s m below meth c b G1 G2 i 1100 [] iv rv mv := by
  refine y_ld1 X (dL 710) ?_
  refine y_arg X (dL 711) (dL 712) (dL 713) (dL 714) (dL 715) (hin 1 (by decide) (by decide)) ?_
  refine y_callC (st := []) (As := [vi (ai xs i 1)]) X (dL 716) lkL_142 rfl (by decide) (Nat.le_of_ble_eq_true rfl) (zin_cons.mpr ⟨z32 _, zin_nil⟩) rfl (P_line (G' := G2) h hB (z32 _)) (fun r A q => QC_c q) (fun r iv1 rv1 q => ?_)
  obtain ⟨iv2, rv2, eA, q⟩ := q
  obtain ⟨eI, eR⟩ := mkC_inj eA
  subst eI; subst eR
  refine y_ld2 X (dL 717) ?_
  refine y_arg X (dL 718) (dL 719) (dL 720) (dL 721) (dL 722) (hin 1 (by decide) (by decide)) ?_
  refine y_callM (As := [vi (ai xs i 1)]) X (dL 723) lkL_145 rfl (rcat _) (Nat.le_of_ble_eq_true rfl) (zin_cons.mpr ⟨z32 _, zin_nil⟩) rfl q (fun r A q => QM_m q) (fun r1 mv1 q => ?_)
  obtain ⟨x, rfl, rfl, hR⟩ := QM_x q
  exact y_eq X (dL 724) (by decide) (kk _ _ _ hR)
set_option maxRecDepth 20000 in
theorem case_30 {p : Program} {l : Launch} {e : Env} {s : State} {m : MethodId} {below : List Frame} {meth : Method} {c : Code} {b L : Nat} {xs : Nat → Int32} {G1 G2 : ZG} {i : Int32} {iv mv : Nat → Nat → Int} {rv : Nat → Nat → Option Nat} {B : Int} (X : LX p s m meth c b L xs G1 G2) (h : RL B iv rv mv) (hB : 0 ≤ B ∧ B ≤ 10000000) (hin : ∀ k : Int, 0 ≤ k → k ≤ 5 → vp_in (i + Int32.ofInt k) L) (kk : ∀ iv1 rv1 mv1, RL (B + 1000) iv1 rv1 mv1 → Lw p l e s m below meth c b G1 G2 i 1551 [] iv1 rv1 mv1) : Lw p l e s m below meth c b G1 G2 i 1123 [] iv rv mv := by
  refine y_ld1 X (dL 727) ?_
  refine y_callC (st := []) (As := []) X (dL 728) lkL_146 rfl (by decide) (Nat.le_of_ble_eq_true rfl) (zin_nil) rfl (P_cover (G' := G2) h hB) (fun r A q => QC_c q) (fun r iv1 rv1 q => ?_)
  obtain ⟨iv2, rv2, eA, q⟩ := q
  obtain ⟨eI, eR⟩ := mkC_inj eA
  subst eI; subst eR
  refine y_ld2 X (dL 729) ?_
  refine y_callM (As := []) X (dL 730) lkL_149 rfl (rcat _) (Nat.le_of_ble_eq_true rfl) (zin_nil) rfl q (fun r A q => QM_m q) (fun r1 mv1 q => ?_)
  obtain ⟨x, rfl, rfl, hR⟩ := QM_x q
  exact y_eq X (dL 731) (by decide) (kk _ _ _ hR)
set_option maxRecDepth 20000 in
theorem case_31 {p : Program} {l : Launch} {e : Env} {s : State} {m : MethodId} {below : List Frame} {meth : Method} {c : Code} {b L : Nat} {xs : Nat → Int32} {G1 G2 : ZG} {i : Int32} {iv mv : Nat → Nat → Int} {rv : Nat → Nat → Option Nat} {B : Int} (X : LX p s m meth c b L xs G1 G2) (h : RL B iv rv mv) (hB : 0 ≤ B ∧ B ≤ 10000000) (hin : ∀ k : Int, 0 ≤ k → k ≤ 5 → vp_in (i + Int32.ofInt k) L) (kk : ∀ iv1 rv1 mv1, RL (B + 1000) iv1 rv1 mv1 → Lw p l e s m below meth c b G1 G2 i 1551 [] iv1 rv1 mv1) : Lw p l e s m below meth c b G1 G2 i 1136 [] iv rv mv := by
  refine y_ld1 X (dL 734) ?_
  refine y_arg X (dL 735) (dL 736) (dL 737) (dL 738) (dL 739) (hin 1 (by decide) (by decide)) ?_
  refine y_arg X (dL 740) (dL 741) (dL 742) (dL 743) (dL 744) (hin 2 (by decide) (by decide)) ?_
  refine y_callC (st := []) (As := [vi (ai xs i 1), vi (ai xs i 2)]) X (dL 745) lkL_150 rfl (by decide) (Nat.le_of_ble_eq_true rfl) (zin_cons.mpr ⟨z32 _, zin_cons.mpr ⟨z32 _, zin_nil⟩⟩) rfl (P_lock (G' := G2) h hB (z32 _) (z32 _)) (fun r A q => QC_c q) (fun r iv1 rv1 q => ?_)
  obtain ⟨iv2, rv2, eA, q⟩ := q
  obtain ⟨eI, eR⟩ := mkC_inj eA
  subst eI; subst eR
  refine y_ld2 X (dL 746) ?_
  refine y_arg X (dL 747) (dL 748) (dL 749) (dL 750) (dL 751) (hin 1 (by decide) (by decide)) ?_
  refine y_arg X (dL 752) (dL 753) (dL 754) (dL 755) (dL 756) (hin 2 (by decide) (by decide)) ?_
  refine y_callM (As := [vi (ai xs i 1), vi (ai xs i 2)]) X (dL 757) lkL_153 rfl (rcat _) (Nat.le_of_ble_eq_true rfl) (zin_cons.mpr ⟨z32 _, zin_cons.mpr ⟨z32 _, zin_nil⟩⟩) rfl q (fun r A q => QM_m q) (fun r1 mv1 q => ?_)
  obtain ⟨x, rfl, rfl, hR⟩ := QM_x q
  exact y_eq X (dL 758) (by decide) (kk _ _ _ hR)
set_option maxRecDepth 20000 in
theorem case_32 {p : Program} {l : Launch} {e : Env} {s : State} {m : MethodId} {below : List Frame} {meth : Method} {c : Code} {b L : Nat} {xs : Nat → Int32} {G1 G2 : ZG} {i : Int32} {iv mv : Nat → Nat → Int} {rv : Nat → Nat → Option Nat} {B : Int} (X : LX p s m meth c b L xs G1 G2) (h : RL B iv rv mv) (hB : 0 ≤ B ∧ B ≤ 10000000) (hin : ∀ k : Int, 0 ≤ k → k ≤ 5 → vp_in (i + Int32.ofInt k) L) (kk : ∀ iv1 rv1 mv1, RL (B + 1000) iv1 rv1 mv1 → Lw p l e s m below meth c b G1 G2 i 1551 [] iv1 rv1 mv1) : Lw p l e s m below meth c b G1 G2 i 1169 [] iv rv mv := by
  refine y_ld1 X (dL 761) ?_
  refine y_arg X (dL 762) (dL 763) (dL 764) (dL 765) (dL 766) (hin 1 (by decide) (by decide)) ?_
  refine y_callC (st := []) (As := [vi (ai xs i 1)]) X (dL 767) lkL_154 rfl (by decide) (Nat.le_of_ble_eq_true rfl) (zin_cons.mpr ⟨z32 _, zin_nil⟩) rfl (P_locked (G' := G2) h hB (z32 _)) (fun r A q => QC_c q) (fun r iv1 rv1 q => ?_)
  obtain ⟨iv2, rv2, eA, q⟩ := q
  obtain ⟨eI, eR⟩ := mkC_inj eA
  subst eI; subst eR
  refine y_ld2 X (dL 768) ?_
  refine y_arg X (dL 769) (dL 770) (dL 771) (dL 772) (dL 773) (hin 1 (by decide) (by decide)) ?_
  refine y_callM (As := [vi (ai xs i 1)]) X (dL 774) lkL_157 rfl (rcat _) (Nat.le_of_ble_eq_true rfl) (zin_cons.mpr ⟨z32 _, zin_nil⟩) rfl q (fun r A q => QM_m q) (fun r1 mv1 q => ?_)
  obtain ⟨x, rfl, rfl, hR⟩ := QM_x q
  exact y_eq X (dL 775) (by decide) (kk _ _ _ hR)
set_option maxRecDepth 20000 in
theorem case_33 {p : Program} {l : Launch} {e : Env} {s : State} {m : MethodId} {below : List Frame} {meth : Method} {c : Code} {b L : Nat} {xs : Nat → Int32} {G1 G2 : ZG} {i : Int32} {iv mv : Nat → Nat → Int} {rv : Nat → Nat → Option Nat} {B : Int} (X : LX p s m meth c b L xs G1 G2) (h : RL B iv rv mv) (hB : 0 ≤ B ∧ B ≤ 10000000) (hin : ∀ k : Int, 0 ≤ k → k ≤ 5 → vp_in (i + Int32.ofInt k) L) (kk : ∀ iv1 rv1 mv1, RL (B + 1000) iv1 rv1 mv1 → Lw p l e s m below meth c b G1 G2 i 1551 [] iv1 rv1 mv1) : Lw p l e s m below meth c b G1 G2 i 1192 [] iv rv mv := by
  refine y_ld1 X (dL 778) ?_
  refine y_arg X (dL 779) (dL 780) (dL 781) (dL 782) (dL 783) (hin 1 (by decide) (by decide)) ?_
  refine y_arg X (dL 784) (dL 785) (dL 786) (dL 787) (dL 788) (hin 2 (by decide) (by decide)) ?_
  refine y_callC (st := []) (As := [vi (ai xs i 1), vi (ai xs i 2)]) X (dL 789) lkL_158 rfl (by decide) (Nat.le_of_ble_eq_true rfl) (zin_cons.mpr ⟨z32 _, zin_cons.mpr ⟨z32 _, zin_nil⟩⟩) rfl (P_knock (G' := G2) h hB (z32 _) (z32 _)) (fun r A q => QC_c q) (fun r iv1 rv1 q => ?_)
  obtain ⟨iv2, rv2, eA, q⟩ := q
  obtain ⟨eI, eR⟩ := mkC_inj eA
  subst eI; subst eR
  refine y_ld2 X (dL 790) ?_
  refine y_arg X (dL 791) (dL 792) (dL 793) (dL 794) (dL 795) (hin 1 (by decide) (by decide)) ?_
  refine y_arg X (dL 796) (dL 797) (dL 798) (dL 799) (dL 800) (hin 2 (by decide) (by decide)) ?_
  refine y_callM (As := [vi (ai xs i 1), vi (ai xs i 2)]) X (dL 801) lkL_161 rfl (rcat _) (Nat.le_of_ble_eq_true rfl) (zin_cons.mpr ⟨z32 _, zin_cons.mpr ⟨z32 _, zin_nil⟩⟩) rfl q (fun r A q => QM_m q) (fun r1 mv1 q => ?_)
  obtain ⟨x, rfl, rfl, hR⟩ := QM_x q
  exact y_eq X (dL 802) (by decide) (kk _ _ _ hR)
set_option maxRecDepth 20000 in
theorem case_34 {p : Program} {l : Launch} {e : Env} {s : State} {m : MethodId} {below : List Frame} {meth : Method} {c : Code} {b L : Nat} {xs : Nat → Int32} {G1 G2 : ZG} {i : Int32} {iv mv : Nat → Nat → Int} {rv : Nat → Nat → Option Nat} {B : Int} (X : LX p s m meth c b L xs G1 G2) (h : RL B iv rv mv) (hB : 0 ≤ B ∧ B ≤ 10000000) (hin : ∀ k : Int, 0 ≤ k → k ≤ 5 → vp_in (i + Int32.ofInt k) L) (kk : ∀ iv1 rv1 mv1, RL (B + 1000) iv1 rv1 mv1 → Lw p l e s m below meth c b G1 G2 i 1551 [] iv1 rv1 mv1) : Lw p l e s m below meth c b G1 G2 i 1225 [] iv rv mv := by
  refine y_ld1 X (dL 805) ?_
  refine y_callC (st := []) (As := []) X (dL 806) lkL_162 rfl (by decide) (Nat.le_of_ble_eq_true rfl) (zin_nil) rfl (P_still (G' := G2) h hB) (fun r A q => QC_c q) (fun r iv1 rv1 q => ?_)
  obtain ⟨iv2, rv2, eA, q⟩ := q
  obtain ⟨eI, eR⟩ := mkC_inj eA
  subst eI; subst eR
  refine y_ld2 X (dL 807) ?_
  refine y_callM (As := []) X (dL 808) lkL_165 rfl (rcat _) (Nat.le_of_ble_eq_true rfl) (zin_nil) rfl q (fun r A q => QM_m q) (fun r1 mv1 q => ?_)
  obtain ⟨x, rfl, rfl, hR⟩ := QM_x q
  exact y_eq X (dL 809) (by decide) (kk _ _ _ hR)
set_option maxRecDepth 20000 in
theorem case_35 {p : Program} {l : Launch} {e : Env} {s : State} {m : MethodId} {below : List Frame} {meth : Method} {c : Code} {b L : Nat} {xs : Nat → Int32} {G1 G2 : ZG} {i : Int32} {iv mv : Nat → Nat → Int} {rv : Nat → Nat → Option Nat} {B : Int} (X : LX p s m meth c b L xs G1 G2) (h : RL B iv rv mv) (hB : 0 ≤ B ∧ B ≤ 10000000) (hin : ∀ k : Int, 0 ≤ k → k ≤ 5 → vp_in (i + Int32.ofInt k) L) (kk : ∀ iv1 rv1 mv1, RL (B + 1000) iv1 rv1 mv1 → Lw p l e s m below meth c b G1 G2 i 1551 [] iv1 rv1 mv1) : Lw p l e s m below meth c b G1 G2 i 1238 [] iv rv mv := by
  refine y_ld1 X (dL 812) ?_
  refine y_arg X (dL 813) (dL 814) (dL 815) (dL 816) (dL 817) (hin 1 (by decide) (by decide)) ?_
  refine y_arg X (dL 818) (dL 819) (dL 820) (dL 821) (dL 822) (hin 2 (by decide) (by decide)) ?_
  refine y_callC (st := []) (As := [vi (ai xs i 1), vi (ai xs i 2)]) X (dL 823) lkL_166 rfl (by decide) (Nat.le_of_ble_eq_true rfl) (zin_cons.mpr ⟨z32 _, zin_cons.mpr ⟨z32 _, zin_nil⟩⟩) rfl (P_heard (G' := G2) h hB (z32 _) (z32 _)) (fun r A q => QC_c q) (fun r iv1 rv1 q => ?_)
  obtain ⟨iv2, rv2, eA, q⟩ := q
  obtain ⟨eI, eR⟩ := mkC_inj eA
  subst eI; subst eR
  refine y_ld2 X (dL 824) ?_
  refine y_arg X (dL 825) (dL 826) (dL 827) (dL 828) (dL 829) (hin 1 (by decide) (by decide)) ?_
  refine y_arg X (dL 830) (dL 831) (dL 832) (dL 833) (dL 834) (hin 2 (by decide) (by decide)) ?_
  refine y_callM (As := [vi (ai xs i 1), vi (ai xs i 2)]) X (dL 835) lkL_169 rfl (rcat _) (Nat.le_of_ble_eq_true rfl) (zin_cons.mpr ⟨z32 _, zin_cons.mpr ⟨z32 _, zin_nil⟩⟩) rfl q (fun r A q => QM_m q) (fun r1 mv1 q => ?_)
  obtain ⟨x, rfl, rfl, hR⟩ := QM_x q
  exact y_eq X (dL 836) (by decide) (kk _ _ _ hR)
set_option maxRecDepth 20000 in
theorem case_36 {p : Program} {l : Launch} {e : Env} {s : State} {m : MethodId} {below : List Frame} {meth : Method} {c : Code} {b L : Nat} {xs : Nat → Int32} {G1 G2 : ZG} {i : Int32} {iv mv : Nat → Nat → Int} {rv : Nat → Nat → Option Nat} {B : Int} (X : LX p s m meth c b L xs G1 G2) (h : RL B iv rv mv) (hB : 0 ≤ B ∧ B ≤ 10000000) (hin : ∀ k : Int, 0 ≤ k → k ≤ 5 → vp_in (i + Int32.ofInt k) L) (kk : ∀ iv1 rv1 mv1, RL (B + 1000) iv1 rv1 mv1 → Lw p l e s m below meth c b G1 G2 i 1551 [] iv1 rv1 mv1) : Lw p l e s m below meth c b G1 G2 i 1271 [] iv rv mv := by
  refine y_ld1 X (dL 839) ?_
  refine y_arg X (dL 840) (dL 841) (dL 842) (dL 843) (dL 844) (hin 1 (by decide) (by decide)) ?_
  refine y_arg X (dL 845) (dL 846) (dL 847) (dL 848) (dL 849) (hin 2 (by decide) (by decide)) ?_
  refine y_callC (st := []) (As := [vi (ai xs i 1), vi (ai xs i 2)]) X (dL 850) lkL_170 rfl (by decide) (Nat.le_of_ble_eq_true rfl) (zin_cons.mpr ⟨z32 _, zin_cons.mpr ⟨z32 _, zin_nil⟩⟩) rfl (P_songHeard (G' := G2) h hB (z32 _) (z32 _)) (fun r A q => QC_c q) (fun r iv1 rv1 q => ?_)
  obtain ⟨iv2, rv2, eA, q⟩ := q
  obtain ⟨eI, eR⟩ := mkC_inj eA
  subst eI; subst eR
  refine y_ld2 X (dL 851) ?_
  refine y_arg X (dL 852) (dL 853) (dL 854) (dL 855) (dL 856) (hin 1 (by decide) (by decide)) ?_
  refine y_arg X (dL 857) (dL 858) (dL 859) (dL 860) (dL 861) (hin 2 (by decide) (by decide)) ?_
  refine y_callM (As := [vi (ai xs i 1), vi (ai xs i 2)]) X (dL 862) lkL_173 rfl (rcat _) (Nat.le_of_ble_eq_true rfl) (zin_cons.mpr ⟨z32 _, zin_cons.mpr ⟨z32 _, zin_nil⟩⟩) rfl q (fun r A q => QM_m q) (fun r1 mv1 q => ?_)
  obtain ⟨x, rfl, rfl, hR⟩ := QM_x q
  exact y_eq X (dL 863) (by decide) (kk _ _ _ hR)
set_option maxRecDepth 20000 in
theorem case_37 {p : Program} {l : Launch} {e : Env} {s : State} {m : MethodId} {below : List Frame} {meth : Method} {c : Code} {b L : Nat} {xs : Nat → Int32} {G1 G2 : ZG} {i : Int32} {iv mv : Nat → Nat → Int} {rv : Nat → Nat → Option Nat} {B : Int} (X : LX p s m meth c b L xs G1 G2) (h : RL B iv rv mv) (hB : 0 ≤ B ∧ B ≤ 10000000) (hin : ∀ k : Int, 0 ≤ k → k ≤ 5 → vp_in (i + Int32.ofInt k) L) (kk : ∀ iv1 rv1 mv1, RL (B + 1000) iv1 rv1 mv1 → Lw p l e s m below meth c b G1 G2 i 1551 [] iv1 rv1 mv1) : Lw p l e s m below meth c b G1 G2 i 1304 [] iv rv mv := by
  refine y_ld1 X (dL 866) ?_
  refine y_arg X (dL 867) (dL 868) (dL 869) (dL 870) (dL 871) (hin 1 (by decide) (by decide)) ?_
  refine y_callC (st := []) (As := [vi (ai xs i 1)]) X (dL 872) lkL_174 rfl (by decide) (Nat.le_of_ble_eq_true rfl) (zin_cons.mpr ⟨z32 _, zin_nil⟩) rfl (P_missed (G' := G2) h hB (z32 _)) (fun r A q => QC_c q) (fun r iv1 rv1 q => ?_)
  obtain ⟨iv2, rv2, eA, q⟩ := q
  obtain ⟨eI, eR⟩ := mkC_inj eA
  subst eI; subst eR
  refine y_ld2 X (dL 873) ?_
  refine y_arg X (dL 874) (dL 875) (dL 876) (dL 877) (dL 878) (hin 1 (by decide) (by decide)) ?_
  refine y_callM (As := [vi (ai xs i 1)]) X (dL 879) lkL_177 rfl (rcat _) (Nat.le_of_ble_eq_true rfl) (zin_cons.mpr ⟨z32 _, zin_nil⟩) rfl q (fun r A q => QM_m q) (fun r1 mv1 q => ?_)
  obtain ⟨x, rfl, rfl, hR⟩ := QM_x q
  exact y_eq X (dL 880) (by decide) (kk _ _ _ hR)
set_option maxRecDepth 20000 in
theorem case_38 {p : Program} {l : Launch} {e : Env} {s : State} {m : MethodId} {below : List Frame} {meth : Method} {c : Code} {b L : Nat} {xs : Nat → Int32} {G1 G2 : ZG} {i : Int32} {iv mv : Nat → Nat → Int} {rv : Nat → Nat → Option Nat} {B : Int} (X : LX p s m meth c b L xs G1 G2) (h : RL B iv rv mv) (hB : 0 ≤ B ∧ B ≤ 10000000) (hin : ∀ k : Int, 0 ≤ k → k ≤ 5 → vp_in (i + Int32.ofInt k) L) (kk : ∀ iv1 rv1 mv1, RL (B + 1000) iv1 rv1 mv1 → Lw p l e s m below meth c b G1 G2 i 1551 [] iv1 rv1 mv1) : Lw p l e s m below meth c b G1 G2 i 1327 [] iv rv mv := by
  refine y_ld1 X (dL 883) ?_
  refine y_arg X (dL 884) (dL 885) (dL 886) (dL 887) (dL 888) (hin 1 (by decide) (by decide)) ?_
  refine y_arg X (dL 889) (dL 890) (dL 891) (dL 892) (dL 893) (hin 2 (by decide) (by decide)) ?_
  refine y_callC (st := []) (As := [vi (ai xs i 1), vi (ai xs i 2)]) X (dL 894) lkL_178 rfl (by decide) (Nat.le_of_ble_eq_true rfl) (zin_cons.mpr ⟨z32 _, zin_cons.mpr ⟨z32 _, zin_nil⟩⟩) rfl (P_placeBeside (G' := G2) h hB (z32 _) (z32 _)) (fun r A q => QC_c q) (fun r iv1 rv1 q => ?_)
  obtain ⟨iv2, rv2, eA, q⟩ := q
  obtain ⟨eI, eR⟩ := mkC_inj eA
  subst eI; subst eR
  refine y_ld2 X (dL 895) ?_
  refine y_arg X (dL 896) (dL 897) (dL 898) (dL 899) (dL 900) (hin 1 (by decide) (by decide)) ?_
  refine y_arg X (dL 901) (dL 902) (dL 903) (dL 904) (dL 905) (hin 2 (by decide) (by decide)) ?_
  refine y_callM (As := [vi (ai xs i 1), vi (ai xs i 2)]) X (dL 906) lkL_181 rfl (rcat _) (Nat.le_of_ble_eq_true rfl) (zin_cons.mpr ⟨z32 _, zin_cons.mpr ⟨z32 _, zin_nil⟩⟩) rfl q (fun r A q => QM_m q) (fun r1 mv1 q => ?_)
  obtain ⟨x, rfl, rfl, hR⟩ := QM_x q
  exact y_eq X (dL 907) (by decide) (kk _ _ _ hR)
set_option maxRecDepth 20000 in
theorem case_39 {p : Program} {l : Launch} {e : Env} {s : State} {m : MethodId} {below : List Frame} {meth : Method} {c : Code} {b L : Nat} {xs : Nat → Int32} {G1 G2 : ZG} {i : Int32} {iv mv : Nat → Nat → Int} {rv : Nat → Nat → Option Nat} {B : Int} (X : LX p s m meth c b L xs G1 G2) (h : RL B iv rv mv) (hB : 0 ≤ B ∧ B ≤ 10000000) (hin : ∀ k : Int, 0 ≤ k → k ≤ 5 → vp_in (i + Int32.ofInt k) L) (kk : ∀ iv1 rv1 mv1, RL (B + 1000) iv1 rv1 mv1 → Lw p l e s m below meth c b G1 G2 i 1551 [] iv1 rv1 mv1) : Lw p l e s m below meth c b G1 G2 i 1360 [] iv rv mv := by
  refine y_ld1 X (dL 910) ?_
  refine y_callC (st := []) (As := []) X (dL 911) lkL_182 rfl (by decide) (Nat.le_of_ble_eq_true rfl) (zin_nil) rfl (P_roomBeside (G' := G2) h hB) (fun r A q => QC_c q) (fun r iv1 rv1 q => ?_)
  obtain ⟨iv2, rv2, eA, q⟩ := q
  obtain ⟨eI, eR⟩ := mkC_inj eA
  subst eI; subst eR
  refine y_ld2 X (dL 912) ?_
  refine y_callM (As := []) X (dL 913) lkL_185 rfl (rcat _) (Nat.le_of_ble_eq_true rfl) (zin_nil) rfl q (fun r A q => QM_m q) (fun r1 mv1 q => ?_)
  obtain ⟨x, rfl, rfl, hR⟩ := QM_x q
  exact y_eq X (dL 914) (by decide) (kk _ _ _ hR)
set_option maxRecDepth 20000 in
theorem case_40 {p : Program} {l : Launch} {e : Env} {s : State} {m : MethodId} {below : List Frame} {meth : Method} {c : Code} {b L : Nat} {xs : Nat → Int32} {G1 G2 : ZG} {i : Int32} {iv mv : Nat → Nat → Int} {rv : Nat → Nat → Option Nat} {B : Int} (X : LX p s m meth c b L xs G1 G2) (h : RL B iv rv mv) (hB : 0 ≤ B ∧ B ≤ 10000000) (hin : ∀ k : Int, 0 ≤ k → k ≤ 5 → vp_in (i + Int32.ofInt k) L) (kk : ∀ iv1 rv1 mv1, RL (B + 1000) iv1 rv1 mv1 → Lw p l e s m below meth c b G1 G2 i 1551 [] iv1 rv1 mv1) : Lw p l e s m below meth c b G1 G2 i 1373 [] iv rv mv := by
  refine y_ld1 X (dL 917) ?_
  refine y_arg X (dL 918) (dL 919) (dL 920) (dL 921) (dL 922) (hin 1 (by decide) (by decide)) ?_
  refine y_arg X (dL 923) (dL 924) (dL 925) (dL 926) (dL 927) (hin 2 (by decide) (by decide)) ?_
  refine y_arg X (dL 928) (dL 929) (dL 930) (dL 931) (dL 932) (hin 3 (by decide) (by decide)) ?_
  refine y_arg X (dL 933) (dL 934) (dL 935) (dL 936) (dL 937) (hin 4 (by decide) (by decide)) ?_
  refine y_arg X (dL 938) (dL 939) (dL 940) (dL 941) (dL 942) (hin 5 (by decide) (by decide)) ?_
  refine y_callC (st := []) (As := [vi (ai xs i 1), vi (ai xs i 2), vi (ai xs i 3), vi (ai xs i 4), vi (ai xs i 5)]) X (dL 943) lkL_186 rfl (by decide) (Nat.le_of_ble_eq_true rfl) (zin_cons.mpr ⟨z32 _, zin_cons.mpr ⟨z32 _, zin_cons.mpr ⟨z32 _, zin_cons.mpr ⟨z32 _, zin_cons.mpr ⟨z32 _, zin_nil⟩⟩⟩⟩⟩) rfl (P_feed (G' := G2) h hB (z32 _) (z32 _) (z32 _) (z32 _) (z32 _)) (fun r A q => QC_c q) (fun r iv1 rv1 q => ?_)
  obtain ⟨iv2, rv2, eA, q⟩ := q
  obtain ⟨eI, eR⟩ := mkC_inj eA
  subst eI; subst eR
  refine y_ld2 X (dL 944) ?_
  refine y_arg X (dL 945) (dL 946) (dL 947) (dL 948) (dL 949) (hin 1 (by decide) (by decide)) ?_
  refine y_arg X (dL 950) (dL 951) (dL 952) (dL 953) (dL 954) (hin 2 (by decide) (by decide)) ?_
  refine y_arg X (dL 955) (dL 956) (dL 957) (dL 958) (dL 959) (hin 3 (by decide) (by decide)) ?_
  refine y_arg X (dL 960) (dL 961) (dL 962) (dL 963) (dL 964) (hin 4 (by decide) (by decide)) ?_
  refine y_arg X (dL 965) (dL 966) (dL 967) (dL 968) (dL 969) (hin 5 (by decide) (by decide)) ?_
  refine y_callM (As := [vi (ai xs i 1), vi (ai xs i 2), vi (ai xs i 3), vi (ai xs i 4), vi (ai xs i 5)]) X (dL 970) lkL_190 rfl (rcat _) (Nat.le_of_ble_eq_true rfl) (zin_cons.mpr ⟨z32 _, zin_cons.mpr ⟨z32 _, zin_cons.mpr ⟨z32 _, zin_cons.mpr ⟨z32 _, zin_cons.mpr ⟨z32 _, zin_nil⟩⟩⟩⟩⟩) rfl q (fun r A q => QM_m q) (fun r1 mv1 q => ?_)
  obtain ⟨x, rfl, rfl, hR⟩ := QM_x q
  exact y_eq X (dL 971) (by decide) (kk _ _ _ hR)
set_option maxRecDepth 20000 in
theorem case_41 {p : Program} {l : Launch} {e : Env} {s : State} {m : MethodId} {below : List Frame} {meth : Method} {c : Code} {b L : Nat} {xs : Nat → Int32} {G1 G2 : ZG} {i : Int32} {iv mv : Nat → Nat → Int} {rv : Nat → Nat → Option Nat} {B : Int} (X : LX p s m meth c b L xs G1 G2) (h : RL B iv rv mv) (hB : 0 ≤ B ∧ B ≤ 10000000) (hin : ∀ k : Int, 0 ≤ k → k ≤ 5 → vp_in (i + Int32.ofInt k) L) (kk : ∀ iv1 rv1 mv1, RL (B + 1000) iv1 rv1 mv1 → Lw p l e s m below meth c b G1 G2 i 1551 [] iv1 rv1 mv1) : Lw p l e s m below meth c b G1 G2 i 1436 [] iv rv mv := by
  refine y_ld1 X (dL 974) ?_
  refine y_arg X (dL 975) (dL 976) (dL 977) (dL 978) (dL 979) (hin 1 (by decide) (by decide)) ?_
  refine y_callC (st := []) (As := [vi (ai xs i 1)]) X (dL 980) lkL_191 rfl (by decide) (Nat.le_of_ble_eq_true rfl) (zin_cons.mpr ⟨z32 _, zin_nil⟩) rfl (P_sheet (G' := G2) h hB (z32 _)) (fun r A q => QC_c q) (fun r iv1 rv1 q => ?_)
  obtain ⟨iv2, rv2, eA, q⟩ := q
  obtain ⟨eI, eR⟩ := mkC_inj eA
  subst eI; subst eR
  refine y_ld2 X (dL 981) ?_
  refine y_arg X (dL 982) (dL 983) (dL 984) (dL 985) (dL 986) (hin 1 (by decide) (by decide)) ?_
  refine y_callM (As := [vi (ai xs i 1)]) X (dL 987) lkL_194 rfl (rcat _) (Nat.le_of_ble_eq_true rfl) (zin_cons.mpr ⟨z32 _, zin_nil⟩) rfl q (fun r A q => QM_m q) (fun r1 mv1 q => ?_)
  obtain ⟨x, rfl, rfl, hR⟩ := QM_x q
  exact y_eq X (dL 988) (by decide) (kk _ _ _ hR)
set_option maxRecDepth 20000 in
theorem case_42 {p : Program} {l : Launch} {e : Env} {s : State} {m : MethodId} {below : List Frame} {meth : Method} {c : Code} {b L : Nat} {xs : Nat → Int32} {G1 G2 : ZG} {i : Int32} {iv mv : Nat → Nat → Int} {rv : Nat → Nat → Option Nat} {B : Int} (X : LX p s m meth c b L xs G1 G2) (h : RL B iv rv mv) (hB : 0 ≤ B ∧ B ≤ 10000000) (hin : ∀ k : Int, 0 ≤ k → k ≤ 5 → vp_in (i + Int32.ofInt k) L) (kk : ∀ iv1 rv1 mv1, RL (B + 1000) iv1 rv1 mv1 → Lw p l e s m below meth c b G1 G2 i 1551 [] iv1 rv1 mv1) : Lw p l e s m below meth c b G1 G2 i 1459 [] iv rv mv := by
  refine y_ld1 X (dL 991) ?_
  refine y_arg X (dL 992) (dL 993) (dL 994) (dL 995) (dL 996) (hin 1 (by decide) (by decide)) ?_
  refine y_callC (st := []) (As := [vi (ai xs i 1)]) X (dL 997) lkL_195 rfl (by decide) (Nat.le_of_ble_eq_true rfl) (zin_cons.mpr ⟨z32 _, zin_nil⟩) rfl (P_fault (G' := G2) h hB (z32 _)) (fun r A q => QC_c q) (fun r iv1 rv1 q => ?_)
  obtain ⟨iv2, rv2, eA, q⟩ := q
  obtain ⟨eI, eR⟩ := mkC_inj eA
  subst eI; subst eR
  refine y_ld2 X (dL 998) ?_
  refine y_arg X (dL 999) (dL 1000) (dL 1001) (dL 1002) (dL 1003) (hin 1 (by decide) (by decide)) ?_
  refine y_callM (As := [vi (ai xs i 1)]) X (dL 1004) lkL_198 rfl (rcat _) (Nat.le_of_ble_eq_true rfl) (zin_cons.mpr ⟨z32 _, zin_nil⟩) rfl q (fun r A q => QM_m q) (fun r1 mv1 q => ?_)
  obtain ⟨x, rfl, rfl, hR⟩ := QM_x q
  exact y_eq X (dL 1005) (by decide) (kk _ _ _ hR)
set_option maxRecDepth 20000 in
theorem case_43 {p : Program} {l : Launch} {e : Env} {s : State} {m : MethodId} {below : List Frame} {meth : Method} {c : Code} {b L : Nat} {xs : Nat → Int32} {G1 G2 : ZG} {i : Int32} {iv mv : Nat → Nat → Int} {rv : Nat → Nat → Option Nat} {B : Int} (X : LX p s m meth c b L xs G1 G2) (h : RL B iv rv mv) (hB : 0 ≤ B ∧ B ≤ 10000000) (hin : ∀ k : Int, 0 ≤ k → k ≤ 5 → vp_in (i + Int32.ofInt k) L) (kk : ∀ iv1 rv1 mv1, RL (B + 1000) iv1 rv1 mv1 → Lw p l e s m below meth c b G1 G2 i 1551 [] iv1 rv1 mv1) : Lw p l e s m below meth c b G1 G2 i 1482 [] iv rv mv := by
  refine y_ld1 X (dL 1008) ?_
  refine y_callC (st := []) (As := []) X (dL 1009) lkL_199 rfl (by decide) (Nat.le_of_ble_eq_true rfl) (zin_nil) rfl (P_run (G' := G2) h hB) (fun r A q => QC_c q) (fun r iv1 rv1 q => ?_)
  obtain ⟨iv2, rv2, eA, q⟩ := q
  obtain ⟨eI, eR⟩ := mkC_inj eA
  subst eI; subst eR
  refine y_ld2 X (dL 1010) ?_
  refine y_callM (As := []) X (dL 1011) lkL_202 rfl (rcat _) (Nat.le_of_ble_eq_true rfl) (zin_nil) rfl q (fun r A q => QM_m q) (fun r1 mv1 q => ?_)
  obtain ⟨x, rfl, rfl, hR⟩ := QM_x q
  exact y_eq X (dL 1012) (by decide) (kk _ _ _ hR)
set_option maxRecDepth 20000 in
theorem case_44 {p : Program} {l : Launch} {e : Env} {s : State} {m : MethodId} {below : List Frame} {meth : Method} {c : Code} {b L : Nat} {xs : Nat → Int32} {G1 G2 : ZG} {i : Int32} {iv mv : Nat → Nat → Int} {rv : Nat → Nat → Option Nat} {B : Int} (X : LX p s m meth c b L xs G1 G2) (h : RL B iv rv mv) (hB : 0 ≤ B ∧ B ≤ 10000000) (hin : ∀ k : Int, 0 ≤ k → k ≤ 5 → vp_in (i + Int32.ofInt k) L) (kk : ∀ iv1 rv1 mv1, RL (B + 1000) iv1 rv1 mv1 → Lw p l e s m below meth c b G1 G2 i 1551 [] iv1 rv1 mv1) : Lw p l e s m below meth c b G1 G2 i 1495 [] iv rv mv := by
  refine y_ld1 X (dL 1015) ?_
  refine y_arg X (dL 1016) (dL 1017) (dL 1018) (dL 1019) (dL 1020) (hin 1 (by decide) (by decide)) ?_
  refine y_callC (st := []) (As := [vi (ai xs i 1)]) X (dL 1021) lkL_203 rfl (by decide) (Nat.le_of_ble_eq_true rfl) (zin_cons.mpr ⟨z32 _, zin_nil⟩) rfl (P_error (G' := G2) h hB (z32 _)) (fun r A q => QC_c q) (fun r iv1 rv1 q => ?_)
  obtain ⟨iv2, rv2, eA, q⟩ := q
  obtain ⟨eI, eR⟩ := mkC_inj eA
  subst eI; subst eR
  refine y_ld2 X (dL 1022) ?_
  refine y_arg X (dL 1023) (dL 1024) (dL 1025) (dL 1026) (dL 1027) (hin 1 (by decide) (by decide)) ?_
  refine y_callM (As := [vi (ai xs i 1)]) X (dL 1028) lkL_206 rfl (rcat _) (Nat.le_of_ble_eq_true rfl) (zin_cons.mpr ⟨z32 _, zin_nil⟩) rfl q (fun r A q => QM_m q) (fun r1 mv1 q => ?_)
  obtain ⟨x, rfl, rfl, hR⟩ := QM_x q
  exact y_eq X (dL 1029) (by decide) (kk _ _ _ hR)
set_option maxRecDepth 20000 in
theorem case_45 {p : Program} {l : Launch} {e : Env} {s : State} {m : MethodId} {below : List Frame} {meth : Method} {c : Code} {b L : Nat} {xs : Nat → Int32} {G1 G2 : ZG} {i : Int32} {iv mv : Nat → Nat → Int} {rv : Nat → Nat → Option Nat} {B : Int} (X : LX p s m meth c b L xs G1 G2) (h : RL B iv rv mv) (hB : 0 ≤ B ∧ B ≤ 10000000) (hin : ∀ k : Int, 0 ≤ k → k ≤ 5 → vp_in (i + Int32.ofInt k) L) (kk : ∀ iv1 rv1 mv1, RL (B + 1000) iv1 rv1 mv1 → Lw p l e s m below meth c b G1 G2 i 1551 [] iv1 rv1 mv1) : Lw p l e s m below meth c b G1 G2 i 1518 [] iv rv mv := by
  refine y_ld1 X (dL 1032) ?_
  refine y_arg X (dL 1033) (dL 1034) (dL 1035) (dL 1036) (dL 1037) (hin 1 (by decide) (by decide)) ?_
  refine y_arg X (dL 1038) (dL 1039) (dL 1040) (dL 1041) (dL 1042) (hin 2 (by decide) (by decide)) ?_
  refine y_callC (st := []) (As := [vi (ai xs i 1), vi (ai xs i 2)]) X (dL 1043) lkL_207 rfl (by decide) (Nat.le_of_ble_eq_true rfl) (zin_cons.mpr ⟨z32 _, zin_cons.mpr ⟨z32 _, zin_nil⟩⟩) rfl (P_mark (G' := G2) h hB (z32 _) (z32 _)) (fun r A q => QC_c q) (fun r iv1 rv1 q => ?_)
  obtain ⟨iv2, rv2, eA, q⟩ := q
  obtain ⟨eI, eR⟩ := mkC_inj eA
  subst eI; subst eR
  refine y_ld2 X (dL 1044) ?_
  refine y_arg X (dL 1045) (dL 1046) (dL 1047) (dL 1048) (dL 1049) (hin 1 (by decide) (by decide)) ?_
  refine y_arg X (dL 1050) (dL 1051) (dL 1052) (dL 1053) (dL 1054) (hin 2 (by decide) (by decide)) ?_
  refine y_callM (As := [vi (ai xs i 1), vi (ai xs i 2)]) X (dL 1055) lkL_210 rfl (rcat _) (Nat.le_of_ble_eq_true rfl) (zin_cons.mpr ⟨z32 _, zin_cons.mpr ⟨z32 _, zin_nil⟩⟩) rfl q (fun r A q => QM_m q) (fun r1 mv1 q => ?_)
  obtain ⟨x, rfl, rfl, hR⟩ := QM_x q
  exact y_eq X (dL 1056) (by decide) (kk _ _ _ hR)

