/-! ===== the constructors ===== -/
theorem ShC_lt {n : Nat} {t : ZS} (h : ShC[n]? = some t) : n < 1000000 := by
  have := (List.getElem?_eq_some_iff.mp h).1
  have e : ShC.length = 183 := rfl
  omega
set_option maxRecDepth 100000 in
set_option maxHeartbeats 4000000 in
theorem iTray {G : ZG} {d : Nat} {iv : Nat → Nat → Int} {rv : Nat → Nat → Option Nat} {K : Option AV → AH → Prop} {o : Nat} (h0 : ShC[o]? = some (.inl 10)) (h1 : ShC[o + 1]? = some (.inr (1, 60))) (hz : zro (o + 1) iv rv) (k : K none (ow ShC (o + 2) (iu iv o 1 (-1)) (ru rv o 0 (some (o + 1))))) : Z G mX10_init d 1 60 0 [vr (some o)] [] (ow ShC (o + 1) iv rv) K := by
  refine Z_aload_n (dX10_init 0) rfl ?_
  refine Z_objI (dX10_init 1) lk_X10_3 obj_in obj_code (by decide) ?_
  refine Z_aload_n (dX10_init 2) rfl ?_
  refine Z_bipush (dX10_init 3) ⟨by decide, by decide⟩ ?_
  refine O_newa (t := 1) (N := 60) (bc1 := 0) (bs1 := 0) (dX10_init 4) (by decide) rfl acl_long h1 hz (by decide) rfl rfl rfl (ShC_lt h1) ?_
  have z1 := zro_s hz
  refine O_putR (dX10_init 5) lk_X10_9 h0 (by omega) rfl (Or.inr ⟨rfl, rfl, rfl⟩) ?_
  have z2 := zro_r (o := o) (k := 0) (x := some (o + 1)) z1 (by omega)
  refine Z_aload_n (dX10_init 6) rfl ?_
  refine Z_iconst (dX10_init 7) ⟨by decide, by decide⟩ ?_
  refine O_putI (dX10_init 8) lk_X10_15 h0 (by omega) rfl (Or.inl rfl) ?_
  have z3 := zro_i (o := o) (k := 1) (x := (-1)) z2 (by omega)
  exact Z_return (dX10_init 9) rfl k
set_option maxRecDepth 100000 in
set_option maxHeartbeats 4000000 in
theorem iTray_z {iv : Nat → Nat → Int} {rv : Nat → Nat → Option Nat} {o : Nat} (hz : zro (o + 1) iv rv) : zro (o + 2) (iu iv o 1 (-1)) (ru rv o 0 (some (o + 1))) := by
  have z1 := zro_s hz
  have z2 := zro_r (o := o) (k := 0) (x := some (o + 1)) z1 (by omega)
  have z3 := zro_i (o := o) (k := 1) (x := (-1)) z2 (by omega)
  exact z3
set_option maxRecDepth 100000 in
set_option maxHeartbeats 4000000 in
theorem iSide {G : ZG} {d : Nat} {iv : Nat → Nat → Int} {rv : Nat → Nat → Option Nat} {K : Option AV → AH → Prop} {o : Nat} {a : Nat} (h0 : ShC[o]? = some (.inl 7)) (h1 : ShC[o + 1]? = some (.inr (0, 400))) (h2 : ShC[o + 2]? = some (.inr (0, 400))) (h3 : ShC[o + 3]? = some (.inr (0, 400))) (hz : zro (o + 1) iv rv) (k : K none (ow ShC (o + 4) (iu (iu iv o 5 (-1)) o 7 (-1)) (ru (ru (ru (ru rv o 0 (some a)) o 1 (some (o + 1))) o 2 (some (o + 2))) o 3 (some (o + 3))))) : Z G mX7_init d 3 1200 0 [vr (some o), vr (some a)] [] (ow ShC (o + 1) iv rv) K := by
  refine Z_aload_n (dX7_init 0) rfl ?_
  refine Z_objI (dX7_init 1) lk_X7_3 obj_in obj_code (by decide) ?_
  refine Z_aload_n (dX7_init 2) rfl ?_
  refine Z_aload_n (dX7_init 3) rfl ?_
  refine O_putR (dX7_init 4) lk_X7_9 h0 (by omega) rfl (Or.inr ⟨rfl, rfl, rfl⟩) ?_
  have z1 := zro_r (o := o) (k := 0) (x := some a) hz (by omega)
  refine Z_aload_n (dX7_init 5) rfl ?_
  refine Z_sipush (dX7_init 6) ⟨by decide, by decide⟩ ?_
  refine O_newa (t := 0) (N := 400) (bc1 := 2) (bs1 := 800) (dX7_init 7) (by decide) rfl acl_int h1 z1 (by decide) rfl rfl rfl (ShC_lt h1) ?_
  have z2 := zro_s z1
  refine O_putR (dX7_init 8) lk_X7_15 h0 (by omega) rfl (Or.inr ⟨rfl, rfl, rfl⟩) ?_
  have z3 := zro_r (o := o) (k := 1) (x := some (o + 1)) z2 (by omega)
  refine Z_aload_n (dX7_init 9) rfl ?_
  refine Z_sipush (dX7_init 10) ⟨by decide, by decide⟩ ?_
  refine O_newa (t := 0) (N := 400) (bc1 := 1) (bs1 := 400) (dX7_init 11) (by decide) rfl acl_int h2 z3 (by decide) rfl rfl rfl (ShC_lt h2) ?_
  have z4 := zro_s z3
  refine O_putR (dX7_init 12) lk_X7_19 h0 (by omega) rfl (Or.inr ⟨rfl, rfl, rfl⟩) ?_
  have z5 := zro_r (o := o) (k := 2) (x := some (o + 2)) z4 (by omega)
  refine Z_aload_n (dX7_init 13) rfl ?_
  refine Z_sipush (dX7_init 14) ⟨by decide, by decide⟩ ?_
  refine O_newa (t := 0) (N := 400) (bc1 := 0) (bs1 := 0) (dX7_init 15) (by decide) rfl acl_int h3 z5 (by decide) rfl rfl rfl (ShC_lt h3) ?_
  have z6 := zro_s z5
  refine O_putR (dX7_init 16) lk_X7_22 h0 (by omega) rfl (Or.inr ⟨rfl, rfl, rfl⟩) ?_
  have z7 := zro_r (o := o) (k := 3) (x := some (o + 3)) z6 (by omega)
  refine Z_aload_n (dX7_init 17) rfl ?_
  refine Z_iconst (dX7_init 18) ⟨by decide, by decide⟩ ?_
  refine O_putI (dX7_init 19) lk_X7_25 h0 (by omega) rfl (Or.inl rfl) ?_
  have z8 := zro_i (o := o) (k := 5) (x := (-1)) z7 (by omega)
  refine Z_aload_n (dX7_init 20) rfl ?_
  refine Z_iconst (dX7_init 21) ⟨by decide, by decide⟩ ?_
  refine O_putI (dX7_init 22) lk_X7_29 h0 (by omega) rfl (Or.inl rfl) ?_
  have z9 := zro_i (o := o) (k := 7) (x := (-1)) z8 (by omega)
  exact Z_return (dX7_init 23) rfl k
set_option maxRecDepth 100000 in
set_option maxHeartbeats 4000000 in
theorem iSide_z {iv : Nat → Nat → Int} {rv : Nat → Nat → Option Nat} {o : Nat} {a : Nat} (hz : zro (o + 1) iv rv) : zro (o + 4) (iu (iu iv o 5 (-1)) o 7 (-1)) (ru (ru (ru (ru rv o 0 (some a)) o 1 (some (o + 1))) o 2 (some (o + 2))) o 3 (some (o + 3))) := by
  have z1 := zro_r (o := o) (k := 0) (x := some a) hz (by omega)
  have z2 := zro_s z1
  have z3 := zro_r (o := o) (k := 1) (x := some (o + 1)) z2 (by omega)
  have z4 := zro_s z3
  have z5 := zro_r (o := o) (k := 2) (x := some (o + 2)) z4 (by omega)
  have z6 := zro_s z5
  have z7 := zro_r (o := o) (k := 3) (x := some (o + 3)) z6 (by omega)
  have z8 := zro_i (o := o) (k := 5) (x := (-1)) z7 (by omega)
  have z9 := zro_i (o := o) (k := 7) (x := (-1)) z8 (by omega)
  exact z9
set_option maxRecDepth 100000 in
set_option maxHeartbeats 4000000 in
theorem iStep {G : ZG} {d : Nat} {iv : Nat → Nat → Int} {rv : Nat → Nat → Option Nat} {K : Option AV → AH → Prop} {o : Nat} (h0 : ShC[o]? = some (.inl 9)) (hz : zro (o + 1) iv rv) (k : K none (ow ShC (o + 1) iv rv)) : Z G mX9_init d 0 0 0 [vr (some o)] [] (ow ShC (o + 1) iv rv) K := by
  refine Z_aload_n (dX9_init 0) rfl ?_
  refine Z_objI (dX9_init 1) lk_X9_3 obj_in obj_code (by decide) ?_
  exact Z_return (dX9_init 2) rfl k
set_option maxRecDepth 100000 in
set_option maxHeartbeats 4000000 in
theorem iStep_z {iv : Nat → Nat → Int} {rv : Nat → Nat → Option Nat} {o : Nat} (hz : zro (o + 1) iv rv) : zro (o + 1) iv rv := by

  exact hz
set_option maxRecDepth 100000 in
set_option maxHeartbeats 4000000 in
theorem iX8 {G : ZG} {d : Nat} {iv : Nat → Nat → Int} {rv : Nat → Nat → Option Nat} {K : Option AV → AH → Prop} (hz : zro 11 iv rv) (k : K none (ow ShC 14 iv (ru (ru (ru rv 10 0 (some 11)) 10 1 (some 12)) 10 2 (some 13)))) : Z G mX8_init d 3 620 0 [vr (some 10)] [] (ow ShC 11 iv rv) K := by
  refine Z_aload_n (dX8_init 0) rfl ?_
  refine Z_objI (dX8_init 1) lk_X8_3 obj_in obj_code (by decide) ?_
  refine Z_aload_n (dX8_init 2) rfl ?_
  refine Z_sipush (dX8_init 3) ⟨by decide, by decide⟩ ?_
  refine O_newa (t := 0) (N := 600) (bc1 := 2) (bs1 := 20) (dX8_init 4) (by decide) rfl acl_int rfl hz (by decide) rfl rfl rfl (by decide) ?_
  have z1 := zro_s hz
  refine O_putR (dX8_init 5) lk_X8_9 rfl (by decide) rfl (Or.inr ⟨rfl, rfl, rfl⟩) ?_
  have z2 := zro_r (o := 10) (k := 0) (x := some 11) z1 (by decide)
  refine Z_aload_n (dX8_init 6) rfl ?_
  refine Z_bipush (dX8_init 7) ⟨by decide, by decide⟩ ?_
  refine O_newa (t := 0) (N := 10) (bc1 := 1) (bs1 := 10) (dX8_init 8) (by decide) rfl acl_int rfl z2 (by decide) rfl rfl rfl (by decide) ?_
  have z3 := zro_s z2
  refine O_putR (dX8_init 9) lk_X8_15 rfl (by decide) rfl (Or.inr ⟨rfl, rfl, rfl⟩) ?_
  have z4 := zro_r (o := 10) (k := 1) (x := some 12) z3 (by decide)
  refine Z_aload_n (dX8_init 10) rfl ?_
  refine Z_bipush (dX8_init 11) ⟨by decide, by decide⟩ ?_
  refine O_newa (t := 0) (N := 10) (bc1 := 0) (bs1 := 0) (dX8_init 12) (by decide) rfl acl_int rfl z4 (by decide) rfl rfl rfl (by decide) ?_
  have z5 := zro_s z4
  refine O_putR (dX8_init 13) lk_X8_18 rfl (by decide) rfl (Or.inr ⟨rfl, rfl, rfl⟩) ?_
  have z6 := zro_r (o := 10) (k := 2) (x := some 13) z5 (by decide)
  exact Z_return (dX8_init 14) rfl k
set_option maxRecDepth 100000 in
set_option maxHeartbeats 4000000 in
theorem iX8_z {iv : Nat → Nat → Int} {rv : Nat → Nat → Option Nat} (hz : zro 11 iv rv) : zro 14 iv (ru (ru (ru rv 10 0 (some 11)) 10 1 (some 12)) 10 2 (some 13)) := by
  have z1 := zro_s hz
  have z2 := zro_r (o := 10) (k := 0) (x := some 11) z1 (by decide)
  have z3 := zro_s z2
  have z4 := zro_r (o := 10) (k := 1) (x := some 12) z3 (by decide)
  have z5 := zro_s z4
  have z6 := zro_r (o := 10) (k := 2) (x := some 13) z5 (by decide)
  exact z6
set_option maxRecDepth 100000 in
set_option maxHeartbeats 4000000 in
theorem iX4 {G : ZG} {d : Nat} {iv : Nat → Nat → Int} {rv : Nat → Nat → Option Nat} {K : Option AV → AH → Prop} (hz : zro 15 iv rv) (k : K none (ow ShC 15 (iu (iu iv 14 0 4) 14 1 8) rv)) : Z G mX4_init d 0 0 0 [vr (some 14)] [] (ow ShC 15 iv rv) K := by
  refine Z_aload_n (dX4_init 0) rfl ?_
  refine Z_objI (dX4_init 1) lk_X4_1 obj_in obj_code (by decide) ?_
  refine Z_aload_n (dX4_init 2) rfl ?_
  refine Z_iconst (dX4_init 3) ⟨by decide, by decide⟩ ?_
  refine O_putI (dX4_init 4) lk_X4_7 rfl (by decide) rfl (Or.inl rfl) ?_
  have z1 := zro_i (o := 14) (k := 0) (x := 4) hz (by decide)
  refine Z_aload_n (dX4_init 5) rfl ?_
  refine Z_bipush (dX4_init 6) ⟨by decide, by decide⟩ ?_
  refine O_putI (dX4_init 7) lk_X4_13 rfl (by decide) rfl (Or.inl rfl) ?_
  have z2 := zro_i (o := 14) (k := 1) (x := 8) z1 (by decide)
  exact Z_return (dX4_init 8) rfl k
set_option maxRecDepth 100000 in
set_option maxHeartbeats 4000000 in
theorem iX4_z {iv : Nat → Nat → Int} {rv : Nat → Nat → Option Nat} (hz : zro 15 iv rv) : zro 15 (iu (iu iv 14 0 4) 14 1 8) rv := by
  have z1 := zro_i (o := 14) (k := 0) (x := 4) hz (by decide)
  have z2 := zro_i (o := 14) (k := 1) (x := 8) z1 (by decide)
  exact z2
set_option maxRecDepth 100000 in
set_option maxHeartbeats 4000000 in
theorem iX0 {G : ZG} {d : Nat} {iv : Nat → Nat → Int} {rv : Nat → Nat → Option Nat} {K : Option AV → AH → Prop} (hz : zro 25 iv rv) (k : K none (ow ShC 30 (iu iv 24 9 (-1)) (ru (ru (ru (ru (ru (ru (ru (ru rv 24 0 (some 25)) 25 0 (some 16)) 25 1 (some 20)) 24 1 (some 14)) 24 2 (some 26)) 24 3 (some 27)) 24 4 (some 28)) 24 5 (some 29)))) : Z G mX0_init d 5 2404 0 [vr (some 24), vr (some 16), vr (some 20), vr (some 14)] [] (ow ShC 25 iv rv) K := by
  refine Z_aload_n (dX0_init 0) rfl ?_
  refine Z_objI (dX0_init 1) lk_X0_3 obj_in obj_code (by decide) ?_
  refine Z_aload_n (dX0_init 2) rfl ?_
  refine Z_iconst (dX0_init 3) ⟨by decide, by decide⟩ ?_
  refine O_newq (t := 5) (N := 2) (bc1 := 4) (bs1 := 2402) (dX0_init 4) (by decide) lk_X0_9 rfl hz (by decide) rfl rfl rfl (by decide) ?_
  have z1 := zro_s hz
  refine O_putR (dX0_init 5) lk_X0_11 rfl (by decide) rfl (Or.inr ⟨rfl, rfl, rfl⟩) ?_
  have z2 := zro_r (o := 24) (k := 0) (x := some 25) z1 (by decide)
  refine Z_aload_n (dX0_init 6) rfl ?_
  refine O_getR (r := some 25) (dX0_init 7) lk_X0_11 rfl (by decide) rfl rfl ?_
  refine Z_iconst (dX0_init 8) ⟨by decide, by decide⟩ ?_
  refine Z_aload_n (dX0_init 9) rfl ?_
  refine O_aast (dX0_init 10) rfl (by decide) (by decide) rfl (by decide) (by decide) ?_
  have z3 := zro_r (o := 25) (k := 0) (x := some 16) z2 (by decide)
  refine Z_aload_n (dX0_init 11) rfl ?_
  refine O_getR (r := some 25) (dX0_init 12) lk_X0_11 rfl (by decide) rfl rfl ?_
  refine Z_iconst (dX0_init 13) ⟨by decide, by decide⟩ ?_
  refine Z_aload_n (dX0_init 14) rfl ?_
  refine O_aast (dX0_init 15) rfl (by decide) (by decide) rfl (by decide) (by decide) ?_
  have z4 := zro_r (o := 25) (k := 1) (x := some 20) z3 (by decide)
  refine Z_aload_n (dX0_init 16) rfl ?_
  refine Z_aload_n (dX0_init 17) rfl ?_
  refine O_putR (dX0_init 18) lk_X0_17 rfl (by decide) rfl (Or.inr ⟨rfl, rfl, rfl⟩) ?_
  have z5 := zro_r (o := 24) (k := 1) (x := some 14) z4 (by decide)
  refine Z_aload_n (dX0_init 19) rfl ?_
  refine Z_sipush (dX0_init 20) ⟨by decide, by decide⟩ ?_
  refine O_newa (t := 0) (N := 800) (bc1 := 3) (bs1 := 1602) (dX0_init 21) (by decide) rfl acl_int rfl z5 (by decide) rfl rfl rfl (by decide) ?_
  have z6 := zro_s z5
  refine O_putR (dX0_init 22) lk_X0_21 rfl (by decide) rfl (Or.inr ⟨rfl, rfl, rfl⟩) ?_
  have z7 := zro_r (o := 24) (k := 2) (x := some 26) z6 (by decide)
  refine Z_aload_n (dX0_init 23) rfl ?_
  refine Z_sipush (dX0_init 24) ⟨by decide, by decide⟩ ?_
  refine O_newa (t := 0) (N := 800) (bc1 := 2) (bs1 := 802) (dX0_init 25) (by decide) rfl acl_int rfl z7 (by decide) rfl rfl rfl (by decide) ?_
  have z8 := zro_s z7
  refine O_putR (dX0_init 26) lk_X0_25 rfl (by decide) rfl (Or.inr ⟨rfl, rfl, rfl⟩) ?_
  have z9 := zro_r (o := 24) (k := 3) (x := some 27) z8 (by decide)
  refine Z_aload_n (dX0_init 27) rfl ?_
  refine Z_sipush (dX0_init 28) ⟨by decide, by decide⟩ ?_
  refine O_newa (t := 3) (N := 800) (bc1 := 1) (bs1 := 2) (dX0_init 29) (by decide) rfl acl_boolean rfl z9 (by decide) rfl rfl rfl (by decide) ?_
  have z10 := zro_s z9
  refine O_putR (dX0_init 30) lk_X0_28 rfl (by decide) rfl (Or.inr ⟨rfl, rfl, rfl⟩) ?_
  have z11 := zro_r (o := 24) (k := 4) (x := some 28) z10 (by decide)
  refine Z_aload_n (dX0_init 31) rfl ?_
  refine Z_iconst (dX0_init 32) ⟨by decide, by decide⟩ ?_
  refine O_newa (t := 0) (N := 2) (bc1 := 0) (bs1 := 0) (dX0_init 33) (by decide) rfl acl_int rfl z11 (by decide) rfl rfl rfl (by decide) ?_
  have z12 := zro_s z11
  refine O_putR (dX0_init 34) lk_X0_32 rfl (by decide) rfl (Or.inr ⟨rfl, rfl, rfl⟩) ?_
  have z13 := zro_r (o := 24) (k := 5) (x := some 29) z12 (by decide)
  refine Z_aload_n (dX0_init 35) rfl ?_
  refine Z_iconst (dX0_init 36) ⟨by decide, by decide⟩ ?_
  refine O_putI (dX0_init 37) lk_X0_35 rfl (by decide) rfl (Or.inl rfl) ?_
  have z14 := zro_i (o := 24) (k := 9) (x := (-1)) z13 (by decide)
  exact Z_return (dX0_init 38) rfl k
set_option maxRecDepth 100000 in
set_option maxHeartbeats 4000000 in
theorem iX0_z {iv : Nat → Nat → Int} {rv : Nat → Nat → Option Nat} (hz : zro 25 iv rv) : zro 30 (iu iv 24 9 (-1)) (ru (ru (ru (ru (ru (ru (ru (ru rv 24 0 (some 25)) 25 0 (some 16)) 25 1 (some 20)) 24 1 (some 14)) 24 2 (some 26)) 24 3 (some 27)) 24 4 (some 28)) 24 5 (some 29)) := by
  have z1 := zro_s hz
  have z2 := zro_r (o := 24) (k := 0) (x := some 25) z1 (by decide)
  have z3 := zro_r (o := 25) (k := 0) (x := some 16) z2 (by decide)
  have z4 := zro_r (o := 25) (k := 1) (x := some 20) z3 (by decide)
  have z5 := zro_r (o := 24) (k := 1) (x := some 14) z4 (by decide)
  have z6 := zro_s z5
  have z7 := zro_r (o := 24) (k := 2) (x := some 26) z6 (by decide)
  have z8 := zro_s z7
  have z9 := zro_r (o := 24) (k := 3) (x := some 27) z8 (by decide)
  have z10 := zro_s z9
  have z11 := zro_r (o := 24) (k := 4) (x := some 28) z10 (by decide)
  have z12 := zro_s z11
  have z13 := zro_r (o := 24) (k := 5) (x := some 29) z12 (by decide)
  have z14 := zro_i (o := 24) (k := 9) (x := (-1)) z13 (by decide)
  exact z14
set_option maxRecDepth 100000 in
set_option maxHeartbeats 4000000 in
theorem iX3 {G : ZG} {d : Nat} {iv : Nat → Nat → Int} {rv : Nat → Nat → Option Nat} {K : Option AV → AH → Prop} (hz : zro 31 iv rv) (k : K none (ow ShC 32 (iu iv 30 3 (-1)) (ru rv 30 0 (some 31)))) : Z G mX3_init d 1 10 0 [vr (some 30)] [] (ow ShC 31 iv rv) K := by
  refine Z_aload_n (dX3_init 0) rfl ?_
  refine Z_objI (dX3_init 1) lk_X3_3 obj_in obj_code (by decide) ?_
  refine Z_aload_n (dX3_init 2) rfl ?_
  refine Z_bipush (dX3_init 3) ⟨by decide, by decide⟩ ?_
  refine O_newa (t := 0) (N := 10) (bc1 := 0) (bs1 := 0) (dX3_init 4) (by decide) rfl acl_int rfl hz (by decide) rfl rfl rfl (by decide) ?_
  have z1 := zro_s hz
  refine O_putR (dX3_init 5) lk_X3_9 rfl (by decide) rfl (Or.inr ⟨rfl, rfl, rfl⟩) ?_
  have z2 := zro_r (o := 30) (k := 0) (x := some 31) z1 (by decide)
  refine Z_aload_n (dX3_init 6) rfl ?_
  refine Z_iconst (dX3_init 7) ⟨by decide, by decide⟩ ?_
  refine O_putI (dX3_init 8) lk_X3_15 rfl (by decide) rfl (Or.inl rfl) ?_
  have z3 := zro_i (o := 30) (k := 3) (x := (-1)) z2 (by decide)
  exact Z_return (dX3_init 9) rfl k
set_option maxRecDepth 100000 in
set_option maxHeartbeats 4000000 in
theorem iX3_z {iv : Nat → Nat → Int} {rv : Nat → Nat → Option Nat} (hz : zro 31 iv rv) : zro 32 (iu iv 30 3 (-1)) (ru rv 30 0 (some 31)) := by
  have z1 := zro_s hz
  have z2 := zro_r (o := 30) (k := 0) (x := some 31) z1 (by decide)
  have z3 := zro_i (o := 30) (k := 3) (x := (-1)) z2 (by decide)
  exact z3
set_option maxRecDepth 100000 in
set_option maxHeartbeats 4000000 in
theorem iX1 {G : ZG} {d : Nat} {iv : Nat → Nat → Int} {rv : Nat → Nat → Option Nat} {K : Option AV → AH → Prop} (hz : zro 33 iv rv) (k : K none (ow ShC 36 iv (ru (ru (ru rv 32 0 (some 33)) 32 1 (some 34)) 32 2 (some 35)))) : Z G mX1_init d 3 80 0 [vr (some 32)] [] (ow ShC 33 iv rv) K := by
  refine Z_aload_n (dX1_init 0) rfl ?_
  refine Z_objI (dX1_init 1) lk_X1_3 obj_in obj_code (by decide) ?_
  refine Z_aload_n (dX1_init 2) rfl ?_
  refine Z_bipush (dX1_init 3) ⟨by decide, by decide⟩ ?_
  refine O_newa (t := 0) (N := 16) (bc1 := 2) (bs1 := 64) (dX1_init 4) (by decide) rfl acl_int rfl hz (by decide) rfl rfl rfl (by decide) ?_
  have z1 := zro_s hz
  refine O_putR (dX1_init 5) lk_X1_9 rfl (by decide) rfl (Or.inr ⟨rfl, rfl, rfl⟩) ?_
  have z2 := zro_r (o := 32) (k := 0) (x := some 33) z1 (by decide)
  refine Z_aload_n (dX1_init 6) rfl ?_
  refine Z_bipush (dX1_init 7) ⟨by decide, by decide⟩ ?_
  refine O_newa (t := 0) (N := 16) (bc1 := 1) (bs1 := 48) (dX1_init 8) (by decide) rfl acl_int rfl z2 (by decide) rfl rfl rfl (by decide) ?_
  have z3 := zro_s z2
  refine O_putR (dX1_init 9) lk_X1_15 rfl (by decide) rfl (Or.inr ⟨rfl, rfl, rfl⟩) ?_
  have z4 := zro_r (o := 32) (k := 1) (x := some 34) z3 (by decide)
  refine Z_aload_n (dX1_init 10) rfl ?_
  refine Z_bipush (dX1_init 11) ⟨by decide, by decide⟩ ?_
  refine O_newa (t := 0) (N := 48) (bc1 := 0) (bs1 := 0) (dX1_init 12) (by decide) rfl acl_int rfl z4 (by decide) rfl rfl rfl (by decide) ?_
  have z5 := zro_s z4
  refine O_putR (dX1_init 13) lk_X1_18 rfl (by decide) rfl (Or.inr ⟨rfl, rfl, rfl⟩) ?_
  have z6 := zro_r (o := 32) (k := 2) (x := some 35) z5 (by decide)
  exact Z_return (dX1_init 14) rfl k
set_option maxRecDepth 100000 in
set_option maxHeartbeats 4000000 in
theorem iX1_z {iv : Nat → Nat → Int} {rv : Nat → Nat → Option Nat} (hz : zro 33 iv rv) : zro 36 iv (ru (ru (ru rv 32 0 (some 33)) 32 1 (some 34)) 32 2 (some 35)) := by
  have z1 := zro_s hz
  have z2 := zro_r (o := 32) (k := 0) (x := some 33) z1 (by decide)
  have z3 := zro_s z2
  have z4 := zro_r (o := 32) (k := 1) (x := some 34) z3 (by decide)
  have z5 := zro_s z4
  have z6 := zro_r (o := 32) (k := 2) (x := some 35) z5 (by decide)
  exact z6
set_option maxRecDepth 100000 in
set_option maxHeartbeats 4000000 in
theorem iX2 {G : ZG} {d : Nat} {iv : Nat → Nat → Int} {rv : Nat → Nat → Option Nat} {K : Option AV → AH → Prop} (hz : zro 37 iv rv) (k : K none (ow ShC 40 iv (ru (ru (ru rv 36 0 (some 37)) 36 1 (some 38)) 36 2 (some 39)))) : Z G mX2_init d 3 432 0 [vr (some 36)] [] (ow ShC 37 iv rv) K := by
  refine Z_aload_n (dX2_init 0) rfl ?_
  refine Z_objI (dX2_init 1) lk_X2_3 obj_in obj_code (by decide) ?_
  refine Z_aload_n (dX2_init 2) rfl ?_
  refine Z_bipush (dX2_init 3) ⟨by decide, by decide⟩ ?_
  refine O_newa (t := 0) (N := 16) (bc1 := 2) (bs1 := 416) (dX2_init 4) (by decide) rfl acl_int rfl hz (by decide) rfl rfl rfl (by decide) ?_
  have z1 := zro_s hz
  refine O_putR (dX2_init 5) lk_X2_9 rfl (by decide) rfl (Or.inr ⟨rfl, rfl, rfl⟩) ?_
  have z2 := zro_r (o := 36) (k := 0) (x := some 37) z1 (by decide)
  refine Z_aload_n (dX2_init 6) rfl ?_
  refine Z_bipush (dX2_init 7) ⟨by decide, by decide⟩ ?_
  refine O_newa (t := 0) (N := 16) (bc1 := 1) (bs1 := 400) (dX2_init 8) (by decide) rfl acl_int rfl z2 (by decide) rfl rfl rfl (by decide) ?_
  have z3 := zro_s z2
  refine O_putR (dX2_init 9) lk_X2_15 rfl (by decide) rfl (Or.inr ⟨rfl, rfl, rfl⟩) ?_
  have z4 := zro_r (o := 36) (k := 1) (x := some 38) z3 (by decide)
  refine Z_aload_n (dX2_init 10) rfl ?_
  refine Z_sipush (dX2_init 11) ⟨by decide, by decide⟩ ?_
  refine O_newa (t := 3) (N := 400) (bc1 := 0) (bs1 := 0) (dX2_init 12) (by decide) rfl acl_boolean rfl z4 (by decide) rfl rfl rfl (by decide) ?_
  have z5 := zro_s z4
  refine O_putR (dX2_init 13) lk_X2_18 rfl (by decide) rfl (Or.inr ⟨rfl, rfl, rfl⟩) ?_
  have z6 := zro_r (o := 36) (k := 2) (x := some 39) z5 (by decide)
  exact Z_return (dX2_init 14) rfl k
set_option maxRecDepth 100000 in
set_option maxHeartbeats 4000000 in
theorem iX2_z {iv : Nat → Nat → Int} {rv : Nat → Nat → Option Nat} (hz : zro 37 iv rv) : zro 40 iv (ru (ru (ru rv 36 0 (some 37)) 36 1 (some 38)) 36 2 (some 39)) := by
  have z1 := zro_s hz
  have z2 := zro_r (o := 36) (k := 0) (x := some 37) z1 (by decide)
  have z3 := zro_s z2
  have z4 := zro_r (o := 36) (k := 1) (x := some 38) z3 (by decide)
  have z5 := zro_s z4
  have z6 := zro_r (o := 36) (k := 2) (x := some 39) z5 (by decide)
  exact z6

