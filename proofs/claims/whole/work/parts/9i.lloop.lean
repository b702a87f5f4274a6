/-! ===== the law's loop ===== -/
theorem nI_z {n : Nat} (h : n < 2147483648) : nI n = Int32.ofInt (n : Int) := Int32.toInt_inj.mp (by rw [nI_toInt h, zt (zv_vi.mpr ⟨by omega, by omega⟩)])
theorem exitc {L j : Nat} (hL : L ≤ 3072) (hj : 6 * j ≤ 3077) (h : ¬ (nI L - 6 < nI (6 * j))) : 6 * j + 6 ≤ L := by
  rw [nI_z (n := L) (by omega), nI_z (n := 6 * j) (by omega), show (6 : Int32) = Int32.ofInt 6 from rfl, ← Int32.ofInt_sub, zlt (zv_vi.mpr ⟨by omega, by omega⟩) (zv_vi.mpr ⟨by omega, by omega⟩)] at h
  omega
theorem in_k {L j : Nat} (hL : L ≤ 3072) (hj : 6 * j + 6 ≤ L) : ∀ k : Int, 0 ≤ k → k ≤ 5 → vp_in (nI (6 * j) + Int32.ofInt k) L := by
  intro k k0 k1
  obtain ⟨n, rfl⟩ : ∃ n : Nat, k = (n : Int) := ⟨k.toNat, by omega⟩
  rw [← nI_z (by omega), nI_add]
  exact vp_in_nI (by omega) (by omega)
set_option maxRecDepth 100000 in
set_option maxHeartbeats 4000000 in
theorem law_go {p : Program} {l : Launch} {e : Env} {s : State} {m : MethodId} {below : List Frame} {meth : Method} {c : Code} {b L : Nat} {xs : Nat → Int32} {G1 G2 : ZG} {i : Int32} {iv mv : Nat → Nat → Int} {rv : Nat → Nat → Option Nat} {B : Int} (X : LX p s m meth c b L xs G1 G2) (h : RL B iv rv mv) (hB : 0 ≤ B ∧ B ≤ 10000000) (hin : ∀ k : Int, 0 ≤ k → k ≤ 5 → vp_in (i + Int32.ofInt k) L) (hi : vp_in i L) (kk : ∀ iv1 rv1 mv1, RL (B + 1000) iv1 rv1 mv1 → Lw p l e s m below meth c b G1 G2 i 1551 [] iv1 rv1 mv1) : Lw p l e s m below meth c b G1 G2 i 27 [] iv rv mv := by
  intro H locs ls h1 h2 hS hl
  obtain ⟨hx, hb, hr, hml, hown, hts, hX, hbl, hlocks, hgv⟩ := id X.1
  refine lv_aload_n hx hb (dL 16) rfl (lv_at hl 0 rfl) ?_
  refine lv_iload_n hx hb (dL 17) rfl (lv_at hl 3 rfl) ?_
  refine va_sld hx hb hX hbl (Nat.not_le.mpr hbl) hS hi (dL 18) ?_
  refine lv_bipush (v := 63) hx hb (dL 19) rfl ?_
  refine lv_iand hx hb (dL 20) ?_
  obtain ⟨q, q6, eq⟩ := pk_andE (xs i.toNatClampNeg) (m := 63) 6 (by decide)
  rw [eq]
  by_cases hq46 : q < 46
  · have hq : q = 0 ∨ q = 1 ∨ q = 2 ∨ q = 3 ∨ q = 4 ∨ q = 5 ∨ q = 6 ∨ q = 7 ∨ q = 8 ∨ q = 9 ∨ q = 10 ∨ q = 11 ∨ q = 12 ∨ q = 13 ∨ q = 14 ∨ q = 15 ∨ q = 16 ∨ q = 17 ∨ q = 18 ∨ q = 19 ∨ q = 20 ∨ q = 21 ∨ q = 22 ∨ q = 23 ∨ q = 24 ∨ q = 25 ∨ q = 26 ∨ q = 27 ∨ q = 28 ∨ q = 29 ∨ q = 30 ∨ q = 31 ∨ q = 32 ∨ q = 33 ∨ q = 34 ∨ q = 35 ∨ q = 36 ∨ q = 37 ∨ q = 38 ∨ q = 39 ∨ q = 40 ∨ q = 41 ∨ q = 42 ∨ q = 43 ∨ q = 44 ∨ q = 45 := by omega
    rcases hq with rfl | rfl | rfl | rfl | rfl | rfl | rfl | rfl | rfl | rfl | rfl | rfl | rfl | rfl | rfl | rfl | rfl | rfl | rfl | rfl | rfl | rfl | rfl | rfl | rfl | rfl | rfl | rfl | rfl | rfl | rfl | rfl | rfl | rfl | rfl | rfl | rfl | rfl | rfl | rfl | rfl | rfl | rfl | rfl | rfl | rfl
    · exact lv_tableIn (off := 199) (tgt := 232) hx hb (dL 21) (by decide) (by decide) (by decide) (by decide) (case_0 X h hB hin kk H locs ls h1 h2 hS hl)
    · exact lv_tableIn (off := 212) (tgt := 245) hx hb (dL 21) (by decide) (by decide) (by decide) (by decide) (case_1 X h hB hin kk H locs ls h1 h2 hS hl)
    · exact lv_tableIn (off := 255) (tgt := 288) hx hb (dL 21) (by decide) (by decide) (by decide) (by decide) (case_2 X h hB hin kk H locs ls h1 h2 hS hl)
    · exact lv_tableIn (off := 328) (tgt := 361) hx hb (dL 21) (by decide) (by decide) (by decide) (by decide) (case_3 X h hB hin kk H locs ls h1 h2 hS hl)
    · exact lv_tableIn (off := 362) (tgt := 395) hx hb (dL 21) (by decide) (by decide) (by decide) (by decide) (case_4 X h hB hin kk H locs ls h1 h2 hS hl)
    · exact lv_tableIn (off := 425) (tgt := 458) hx hb (dL 21) (by decide) (by decide) (by decide) (by decide) (case_5 X h hB hin kk H locs ls h1 h2 hS hl)
    · exact lv_tableIn (off := 468) (tgt := 501) hx hb (dL 21) (by decide) (by decide) (by decide) (by decide) (case_6 X h hB hin kk H locs ls h1 h2 hS hl)
    · exact lv_tableIn (off := 501) (tgt := 534) hx hb (dL 21) (by decide) (by decide) (by decide) (by decide) (case_7 X h hB hin kk H locs ls h1 h2 hS hl)
    · exact lv_tableIn (off := 534) (tgt := 567) hx hb (dL 21) (by decide) (by decide) (by decide) (by decide) (case_8 X h hB hin kk H locs ls h1 h2 hS hl)
    · exact lv_tableIn (off := 557) (tgt := 590) hx hb (dL 21) (by decide) (by decide) (by decide) (by decide) (case_9 X h hB hin kk H locs ls h1 h2 hS hl)
    · exact lv_tableIn (off := 590) (tgt := 623) hx hb (dL 21) (by decide) (by decide) (by decide) (by decide) (case_10 X h hB hin kk H locs ls h1 h2 hS hl)
    · exact lv_tableIn (off := 623) (tgt := 656) hx hb (dL 21) (by decide) (by decide) (by decide) (by decide) (case_11 X h hB hin kk H locs ls h1 h2 hS hl)
    · exact lv_tableIn (off := 646) (tgt := 679) hx hb (dL 21) (by decide) (by decide) (by decide) (by decide) (case_12 X h hB hin kk H locs ls h1 h2 hS hl)
    · exact lv_tableIn (off := 679) (tgt := 712) hx hb (dL 21) (by decide) (by decide) (by decide) (by decide) (case_13 X h hB hin kk H locs ls h1 h2 hS hl)
    · exact lv_tableIn (off := 712) (tgt := 745) hx hb (dL 21) (by decide) (by decide) (by decide) (by decide) (case_14 X h hB hin kk H locs ls h1 h2 hS hl)
    · exact lv_tableIn (off := 735) (tgt := 768) hx hb (dL 21) (by decide) (by decide) (by decide) (by decide) (case_15 X h hB hin kk H locs ls h1 h2 hS hl)
    · exact lv_tableIn (off := 768) (tgt := 801) hx hb (dL 21) (by decide) (by decide) (by decide) (by decide) (case_16 X h hB hin kk H locs ls h1 h2 hS hl)
    · exact lv_tableIn (off := 791) (tgt := 824) hx hb (dL 21) (by decide) (by decide) (by decide) (by decide) (case_17 X h hB hin kk H locs ls h1 h2 hS hl)
    · exact lv_tableIn (off := 814) (tgt := 847) hx hb (dL 21) (by decide) (by decide) (by decide) (by decide) (case_18 X h hB hin kk H locs ls h1 h2 hS hl)
    · exact lv_tableIn (off := 847) (tgt := 880) hx hb (dL 21) (by decide) (by decide) (by decide) (by decide) (case_19 X h hB hin kk H locs ls h1 h2 hS hl)
    · exact lv_tableIn (off := 870) (tgt := 903) hx hb (dL 21) (by decide) (by decide) (by decide) (by decide) (case_20 X h hB hin kk H locs ls h1 h2 hS hl)
    · exact lv_tableIn (off := 883) (tgt := 916) hx hb (dL 21) (by decide) (by decide) (by decide) (by decide) (case_21 X h hB hin kk H locs ls h1 h2 hS hl)
    · exact lv_tableIn (off := 906) (tgt := 939) hx hb (dL 21) (by decide) (by decide) (by decide) (by decide) (case_22 X h hB hin kk H locs ls h1 h2 hS hl)
    · exact lv_tableIn (off := 939) (tgt := 972) hx hb (dL 21) (by decide) (by decide) (by decide) (by decide) (case_23 X h hB hin kk H locs ls h1 h2 hS hl)
    · exact lv_tableIn (off := 952) (tgt := 985) hx hb (dL 21) (by decide) (by decide) (by decide) (by decide) (case_24 X h hB hin kk H locs ls h1 h2 hS hl)
    · exact lv_tableIn (off := 985) (tgt := 1018) hx hb (dL 21) (by decide) (by decide) (by decide) (by decide) (case_25 X h hB hin kk H locs ls h1 h2 hS hl)
    · exact lv_tableIn (off := 1008) (tgt := 1041) hx hb (dL 21) (by decide) (by decide) (by decide) (by decide) (case_26 X h hB hin kk H locs ls h1 h2 hS hl)
    · exact lv_tableIn (off := 1041) (tgt := 1074) hx hb (dL 21) (by decide) (by decide) (by decide) (by decide) (case_27 X h hB hin kk H locs ls h1 h2 hS hl)
    · exact lv_tableIn (off := 1054) (tgt := 1087) hx hb (dL 21) (by decide) (by decide) (by decide) (by decide) (case_28 X h hB hin kk H locs ls h1 h2 hS hl)
    · exact lv_tableIn (off := 1067) (tgt := 1100) hx hb (dL 21) (by decide) (by decide) (by decide) (by decide) (case_29 X h hB hin kk H locs ls h1 h2 hS hl)
    · exact lv_tableIn (off := 1090) (tgt := 1123) hx hb (dL 21) (by decide) (by decide) (by decide) (by decide) (case_30 X h hB hin kk H locs ls h1 h2 hS hl)
    · exact lv_tableIn (off := 1103) (tgt := 1136) hx hb (dL 21) (by decide) (by decide) (by decide) (by decide) (case_31 X h hB hin kk H locs ls h1 h2 hS hl)
    · exact lv_tableIn (off := 1136) (tgt := 1169) hx hb (dL 21) (by decide) (by decide) (by decide) (by decide) (case_32 X h hB hin kk H locs ls h1 h2 hS hl)
    · exact lv_tableIn (off := 1159) (tgt := 1192) hx hb (dL 21) (by decide) (by decide) (by decide) (by decide) (case_33 X h hB hin kk H locs ls h1 h2 hS hl)
    · exact lv_tableIn (off := 1192) (tgt := 1225) hx hb (dL 21) (by decide) (by decide) (by decide) (by decide) (case_34 X h hB hin kk H locs ls h1 h2 hS hl)
    · exact lv_tableIn (off := 1205) (tgt := 1238) hx hb (dL 21) (by decide) (by decide) (by decide) (by decide) (case_35 X h hB hin kk H locs ls h1 h2 hS hl)
    · exact lv_tableIn (off := 1238) (tgt := 1271) hx hb (dL 21) (by decide) (by decide) (by decide) (by decide) (case_36 X h hB hin kk H locs ls h1 h2 hS hl)
    · exact lv_tableIn (off := 1271) (tgt := 1304) hx hb (dL 21) (by decide) (by decide) (by decide) (by decide) (case_37 X h hB hin kk H locs ls h1 h2 hS hl)
    · exact lv_tableIn (off := 1294) (tgt := 1327) hx hb (dL 21) (by decide) (by decide) (by decide) (by decide) (case_38 X h hB hin kk H locs ls h1 h2 hS hl)
    · exact lv_tableIn (off := 1327) (tgt := 1360) hx hb (dL 21) (by decide) (by decide) (by decide) (by decide) (case_39 X h hB hin kk H locs ls h1 h2 hS hl)
    · exact lv_tableIn (off := 1340) (tgt := 1373) hx hb (dL 21) (by decide) (by decide) (by decide) (by decide) (case_40 X h hB hin kk H locs ls h1 h2 hS hl)
    · exact lv_tableIn (off := 1403) (tgt := 1436) hx hb (dL 21) (by decide) (by decide) (by decide) (by decide) (case_41 X h hB hin kk H locs ls h1 h2 hS hl)
    · exact lv_tableIn (off := 1426) (tgt := 1459) hx hb (dL 21) (by decide) (by decide) (by decide) (by decide) (case_42 X h hB hin kk H locs ls h1 h2 hS hl)
    · exact lv_tableIn (off := 1449) (tgt := 1482) hx hb (dL 21) (by decide) (by decide) (by decide) (by decide) (case_43 X h hB hin kk H locs ls h1 h2 hS hl)
    · exact lv_tableIn (off := 1462) (tgt := 1495) hx hb (dL 21) (by decide) (by decide) (by decide) (by decide) (case_44 X h hB hin kk H locs ls h1 h2 hS hl)
    · exact lv_tableIn (off := 1485) (tgt := 1518) hx hb (dL 21) (by decide) (by decide) (by decide) (by decide) (case_45 X h hB hin kk H locs ls h1 h2 hS hl)
  · exact lv_tableOut (tgt := 1551) hx hb (dL 21) (Or.inr (by rw [nI_toInt (by omega)]; omega)) (by decide) (kk _ _ _ (RL_B h (by omega)) H locs ls h1 h2 hS hl)
set_option maxRecDepth 100000 in
theorem law_loop {p : Program} {l : Launch} {e : Env} {s : State} {m : MethodId} {below : List Frame} {meth : Method} {c : Code} {b L : Nat} {xs : Nat → Int32} {G1 G2 : ZG} (hL : L ≤ 3072) (X : LX p s m meth c b L xs G1 G2) : ∀ (n j : Nat), 6 * j ≤ L + 5 → L + 6 ≤ 6 * (j + n) → ∀ (iv : Nat → Nat → Int) (rv : Nat → Nat → Option Nat) (mv : Nat → Nat → Int), RL (1000 * (j : Int)) iv rv mv → Lw p l e s m below meth c b G1 G2 (nI (6 * j)) 18 [] iv rv mv := by
  obtain ⟨hx, hb, hr, hml, hown, hts, hX, hbl, hlocks, hgv⟩ := id X.1
  intro n
  induction n with
  | zero => intro j a b; omega
  | succ n ih =>
    intro j j1 j2 iv rv mv h H locs ls h1 h2 hS hl
    refine lv_iload_n hx hb (dL 10) rfl (lv_at hl 3 rfl) ?_
    refine lv_aload_n hx hb (dL 11) rfl (lv_at hl 0 rfl) ?_
    refine va_slen hx hb hX hbl (Nat.not_le.mpr hbl) hS (dL 12) ?_
    refine lv_bipush (v := 6) hx hb (dL 13) rfl ?_
    refine lv_isub hx hb (dL 14) ?_
    refine lv_icmp_gt (tgt := 1557) hx hb (dL 15) (by decide) (fun _ => ?_) (fun hc => ?_)
    · refine lv_iconst (v := 1) hx hb (dL 1061) (by decide) ?_
      refine va_forget (fun q hq => hS.2.2 q hq) ?_
      refine W.widen (k := 600000) (n := 7302250) (by decide) (by decide) ?_
      exact lw_ret hx hb hr hlocks (dL 1062)
    · have hj : 6 * j + 6 ≤ L := exitc hL (by omega) hc
      refine law_go X h ⟨by omega, by omega⟩ (in_k hL hj) (vp_in_nI (by omega) (by omega)) (fun iv1 rv1 mv1 h' => ?_) H locs ls h1 h2 hS hl
      intro H locs ls h1 h2 hS hl
      refine lv_iinc (v := nI (6 * (j + 1))) (lv' := [(3, .int (nI (6 * (j + 1)))), (0, .ref b), (1, .ref G1.1), (2, .ref G2.1)]) hx hb (dL 1059) hl (k := 3) rfl (show nI (6 * j) + nI 6 = nI (6 * j + 6) from nI_add _ _) (by decide) rfl (fun ls hl => ?_)
      refine lv_goto (tgt := 18) hx hb (dL 1060) (by decide) ?_
      exact ih (j + 1) (by omega) (by omega) iv1 rv1 mv1 (by rw [show 1000 * ((j + 1 : Nat) : Int) = 1000 * (j : Int) + 1000 by omega]; exact h') H locs ls h1 h2 hS (lv_sub hl [1, 2, 3, 0] rfl)

