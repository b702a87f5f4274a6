/-! ===== the class's and the model's constructors ===== -/
set_option maxRecDepth 100000 in
set_option maxHeartbeats 4000000 in
theorem iX11 {G : ZG} {d : Nat} {iv : Nat → Nat → Int} {rv : Nat → Nat → Option Nat} {K : Option AV → AH → Prop} (hz : zro 1 iv rv) (k : K none (ow ShC 183 (iu (iu (iu (iu (iu (iu (ifill (iu (iu (iu (iu (iu (iu (iu (iu (iu (iu (iu (iu (iu (iu (iu (iu iv 2 1 (-1)) 4 1 (-1)) 6 1 (-1)) 8 1 (-1)) 14 0 4) 14 1 8) 16 5 (-1)) 16 7 (-1)) 20 5 (-1)) 20 7 (-1)) 24 9 (-1)) 30 3 (-1)) 42 5 (-1)) 42 7 (-1)) 46 5 (-1)) 46 7 (-1)) 50 0 8 (-1)) 40 9 (-1)) 40 10 (-1)) 0 14 (-1)) 0 15 (-1)) 0 16 200) 0 17 0) (ru (shR (ru (shR (ru (ru (ru (ru (ru (ru (ru (ru (ru (ru (ru (ru (ru (ru (ru (ru (ru (ru (ru (ru (ru (ru (ru (ru (ru (ru (ru (ru (ru (ru (ru (ru (ru (ru (ru (ru (ru (ru (ru (ru (ru (ru (ru (ru (ru (ru (ru (ru (ru (ru (ru (ru (ru (ru (ru (ru (ru (ru (ru (ru (ru (ru (ru rv 0 0 (some 1)) 2 0 (some 3)) 1 0 (some 2)) 4 0 (some 5)) 1 1 (some 4)) 6 0 (some 7)) 1 2 (some 6)) 8 0 (some 9)) 1 3 (some 8)) 10 0 (some 11)) 10 1 (some 12)) 10 2 (some 13)) 0 1 (some 10)) 0 2 (some 14)) 0 3 (some 15)) 16 0 (some 14)) 16 1 (some 17)) 16 2 (some 18)) 16 3 (some 19)) 15 0 (some 16)) 20 0 (some 14)) 20 1 (some 21)) 20 2 (some 22)) 20 3 (some 23)) 15 1 (some 20)) 24 0 (some 25)) 25 0 (some 16)) 25 1 (some 20)) 24 1 (some 14)) 24 2 (some 26)) 24 3 (some 27)) 24 4 (some 28)) 24 5 (some 29)) 0 4 (some 24)) 30 0 (some 31)) 0 5 (some 30)) 32 0 (some 33)) 32 1 (some 34)) 32 2 (some 35)) 0 6 (some 32)) 36 0 (some 37)) 36 1 (some 38)) 36 2 (some 39)) 0 7 (some 36)) 40 0 (some 10)) 40 1 (some 15)) 40 2 (some 41)) 42 0 (some 14)) 42 1 (some 43)) 42 2 (some 44)) 42 3 (some 45)) 41 0 (some 42)) 46 0 (some 14)) 46 1 (some 47)) 46 2 (some 48)) 46 3 (some 49)) 41 1 (some 46)) 40 3 (some 50)) 40 4 (some 51)) 40 5 (some 52)) 40 6 (some 53)) 0 8 (some 40)) 0 9 (some 54)) 55) 0 11 (some 55)) 119) 0 12 (some 119)))) : Z G mX11_init (d + 2) 182 11060 0 [vr (some 0), vu] [] (ow ShC 1 iv rv) K := by
  refine Z_aload_n (dX11_init 0) rfl ?_
  refine Z_objI (dX11_init 1) lk_X11_1 obj_in obj_code (by decide) ?_
  refine Z_aload_n (dX11_init 2) rfl ?_
  refine Z_iconst (dX11_init 3) ⟨by decide, by decide⟩ ?_
  refine O_newq (t := 4) (N := 4) (bc1 := 181) (bs1 := 11056) (dX11_init 4) (by decide) lk_X11_9 rfl hz (by decide) rfl rfl rfl (by decide) ?_
  have z1 := zro_s hz
  refine O_putR (dX11_init 5) lk_X11_11 rfl (by decide) rfl (Or.inr ⟨rfl, rfl, rfl⟩) ?_
  have z2 := zro_r (o := 0) (k := 0) (x := some 1) z1 (by decide)
  refine Z_iconst (dX11_init 6) ⟨by decide, by decide⟩ ?_
  refine Z_istore_n (dX11_init 7) (Nat.le_of_ble_eq_true rfl) rfl ?_
  refine Z_iload_n (dX11_init 8) rfl ?_
  refine Z_iconst (dX11_init 9) ⟨by decide, by decide⟩ ?_
  refine Z_icmp_ge (dX11_init 10) rfl (fun q => absurd q (by decide)) (fun _ => ?_)
  refine Z_aload_n (dX11_init 11) rfl ?_
  refine O_getR (r := some 1) (dX11_init 12) lk_X11_11 rfl (by decide) rfl rfl ?_
  refine Z_iload_n (dX11_init 13) rfl ?_
  refine O_new (ci := 10) (bc1 := 180) (bs1 := 11053) (dX11_init 14) (by decide) lk_X11_9 ins_X10 ini_X10 rfl z2 rfl rfl (by decide) ?_
  have z3 := zro_s z2
  refine Z_dup (dX11_init 15) rfl ?_
  refine Z_callI (As := []) (S := [vr (some 2), vi 0, vr (some 1)]) (bc2 := 1) (bs2 := 60) (bc1 := 179) (bs1 := 10993) (dX11_init 16) lk_X11_15 rfl (by decide) (by decide) rfl rfl (iTray rfl rfl z3 ?_)
  show Z G mX11_init _ _ _ 31 [vr (some 0), vi 0] [vr (some 2), vi 0, vr (some 1)] (ow ShC 4 _ _) K
  have z4 := iTray_z (o := 2) z3
  refine O_aast (dX11_init 17) rfl (by decide) (by decide) rfl (by decide) (by decide) ?_
  have z5 := zro_r (o := 1) (k := 0) (x := some 2) z4 (by decide)
  refine Z_iinc (dX11_init 18) rfl (Nat.le_of_ble_eq_true rfl) ⟨by decide, by decide⟩ rfl ?_
  refine Z_goto (dX11_init 19) rfl ?_
  refine Z_iload_n (dX11_init 8) rfl ?_
  refine Z_iconst (dX11_init 9) ⟨by decide, by decide⟩ ?_
  refine Z_icmp_ge (dX11_init 10) rfl (fun q => absurd q (by decide)) (fun _ => ?_)
  refine Z_aload_n (dX11_init 11) rfl ?_
  refine O_getR (r := some 1) (dX11_init 12) lk_X11_11 rfl (by decide) rfl rfl ?_
  refine Z_iload_n (dX11_init 13) rfl ?_
  refine O_new (ci := 10) (bc1 := 178) (bs1 := 10990) (dX11_init 14) (by decide) lk_X11_9 ins_X10 ini_X10 rfl z5 rfl rfl (by decide) ?_
  have z6 := zro_s z5
  refine Z_dup (dX11_init 15) rfl ?_
  refine Z_callI (As := []) (S := [vr (some 4), vi (0 + 1), vr (some 1)]) (bc2 := 1) (bs2 := 60) (bc1 := 177) (bs1 := 10930) (dX11_init 16) lk_X11_15 rfl (by decide) (by decide) rfl rfl (iTray rfl rfl z6 ?_)
  show Z G mX11_init _ _ _ 31 [vr (some 0), vi (0 + 1)] [vr (some 4), vi (0 + 1), vr (some 1)] (ow ShC 6 _ _) K
  have z7 := iTray_z (o := 4) z6
  refine O_aast (dX11_init 17) rfl (by decide) (by decide) rfl (by decide) (by decide) ?_
  have z8 := zro_r (o := 1) (k := 1) (x := some 4) z7 (by decide)
  refine Z_iinc (dX11_init 18) rfl (Nat.le_of_ble_eq_true rfl) ⟨by decide, by decide⟩ rfl ?_
  refine Z_goto (dX11_init 19) rfl ?_
  refine Z_iload_n (dX11_init 8) rfl ?_
  refine Z_iconst (dX11_init 9) ⟨by decide, by decide⟩ ?_
  refine Z_icmp_ge (dX11_init 10) rfl (fun q => absurd q (by decide)) (fun _ => ?_)
  refine Z_aload_n (dX11_init 11) rfl ?_
  refine O_getR (r := some 1) (dX11_init 12) lk_X11_11 rfl (by decide) rfl rfl ?_
  refine Z_iload_n (dX11_init 13) rfl ?_
  refine O_new (ci := 10) (bc1 := 176) (bs1 := 10927) (dX11_init 14) (by decide) lk_X11_9 ins_X10 ini_X10 rfl z8 rfl rfl (by decide) ?_
  have z9 := zro_s z8
  refine Z_dup (dX11_init 15) rfl ?_
  refine Z_callI (As := []) (S := [vr (some 6), vi ((0 + 1) + 1), vr (some 1)]) (bc2 := 1) (bs2 := 60) (bc1 := 175) (bs1 := 10867) (dX11_init 16) lk_X11_15 rfl (by decide) (by decide) rfl rfl (iTray rfl rfl z9 ?_)
  show Z G mX11_init _ _ _ 31 [vr (some 0), vi ((0 + 1) + 1)] [vr (some 6), vi ((0 + 1) + 1), vr (some 1)] (ow ShC 8 _ _) K
  have z10 := iTray_z (o := 6) z9
  refine O_aast (dX11_init 17) rfl (by decide) (by decide) rfl (by decide) (by decide) ?_
  have z11 := zro_r (o := 1) (k := 2) (x := some 6) z10 (by decide)
  refine Z_iinc (dX11_init 18) rfl (Nat.le_of_ble_eq_true rfl) ⟨by decide, by decide⟩ rfl ?_
  refine Z_goto (dX11_init 19) rfl ?_
  refine Z_iload_n (dX11_init 8) rfl ?_
  refine Z_iconst (dX11_init 9) ⟨by decide, by decide⟩ ?_
  refine Z_icmp_ge (dX11_init 10) rfl (fun q => absurd q (by decide)) (fun _ => ?_)
  refine Z_aload_n (dX11_init 11) rfl ?_
  refine O_getR (r := some 1) (dX11_init 12) lk_X11_11 rfl (by decide) rfl rfl ?_
  refine Z_iload_n (dX11_init 13) rfl ?_
  refine O_new (ci := 10) (bc1 := 174) (bs1 := 10864) (dX11_init 14) (by decide) lk_X11_9 ins_X10 ini_X10 rfl z11 rfl rfl (by decide) ?_
  have z12 := zro_s z11
  refine Z_dup (dX11_init 15) rfl ?_
  refine Z_callI (As := []) (S := [vr (some 8), vi (((0 + 1) + 1) + 1), vr (some 1)]) (bc2 := 1) (bs2 := 60) (bc1 := 173) (bs1 := 10804) (dX11_init 16) lk_X11_15 rfl (by decide) (by decide) rfl rfl (iTray rfl rfl z12 ?_)
  show Z G mX11_init _ _ _ 31 [vr (some 0), vi (((0 + 1) + 1) + 1)] [vr (some 8), vi (((0 + 1) + 1) + 1), vr (some 1)] (ow ShC 10 _ _) K
  have z13 := iTray_z (o := 8) z12
  refine O_aast (dX11_init 17) rfl (by decide) (by decide) rfl (by decide) (by decide) ?_
  have z14 := zro_r (o := 1) (k := 3) (x := some 8) z13 (by decide)
  refine Z_iinc (dX11_init 18) rfl (Nat.le_of_ble_eq_true rfl) ⟨by decide, by decide⟩ rfl ?_
  refine Z_goto (dX11_init 19) rfl ?_
  refine Z_iload_n (dX11_init 8) rfl ?_
  refine Z_iconst (dX11_init 9) ⟨by decide, by decide⟩ ?_
  refine Z_icmp_ge (dX11_init 10) rfl (fun _ => ?_) (fun q => absurd q (by decide))
  refine Z_aload_n (dX11_init 20) rfl ?_
  refine O_new (ci := 8) (bc1 := 172) (bs1 := 10800) (dX11_init 21) (by decide) lk_X11_16 ins_X8 ini_X8 rfl z14 rfl rfl (by decide) ?_
  have z15 := zro_s z14
  refine Z_dup (dX11_init 22) rfl ?_
  refine Z_callI (As := []) (S := [vr (some 10), vr (some 0)]) (bc2 := 3) (bs2 := 620) (bc1 := 169) (bs1 := 10180) (dX11_init 23) lk_X11_18 rfl (by decide) (by decide) rfl rfl (iX8  z15 ?_)
  show Z G mX11_init _ _ _ 46 [vr (some 0), vi ((((0 + 1) + 1) + 1) + 1)] [vr (some 10), vr (some 0)] (ow ShC 14 _ _) K
  have z16 := iX8_z z15
  refine O_putR (dX11_init 24) lk_X11_19 rfl (by decide) rfl (Or.inr ⟨rfl, rfl, rfl⟩) ?_
  have z17 := zro_r (o := 0) (k := 1) (x := some 10) z16 (by decide)
  refine Z_aload_n (dX11_init 25) rfl ?_
  refine O_new (ci := 4) (bc1 := 168) (bs1 := 10177) (dX11_init 26) (by decide) lk_X11_23 ins_X4 ini_X4 rfl z17 rfl rfl (by decide) ?_
  have z18 := zro_s z17
  refine Z_dup (dX11_init 27) rfl ?_
  refine Z_callI (As := []) (S := [vr (some 14), vr (some 0)]) (bc2 := 0) (bs2 := 0) (bc1 := 168) (bs1 := 10177) (dX11_init 28) lk_X11_25 rfl (by decide) (by decide) rfl rfl (iX4  z18 ?_)
  show Z G mX11_init _ _ _ 57 [vr (some 0), vi ((((0 + 1) + 1) + 1) + 1)] [vr (some 14), vr (some 0)] (ow ShC 15 _ _) K
  have z19 := iX4_z z18
  refine O_putR (dX11_init 29) lk_X11_26 rfl (by decide) rfl (Or.inr ⟨rfl, rfl, rfl⟩) ?_
  have z20 := zro_r (o := 0) (k := 2) (x := some 14) z19 (by decide)
  refine Z_aload_n (dX11_init 30) rfl ?_
  refine Z_iconst (dX11_init 31) ⟨by decide, by decide⟩ ?_
  refine O_newq (t := 5) (N := 2) (bc1 := 167) (bs1 := 10175) (dX11_init 32) (by decide) lk_X11_30 rfl z20 (by decide) rfl rfl rfl (by decide) ?_
  have z21 := zro_s z20
  refine O_putR (dX11_init 33) lk_X11_32 rfl (by decide) rfl (Or.inr ⟨rfl, rfl, rfl⟩) ?_
  have z22 := zro_r (o := 0) (k := 3) (x := some 15) z21 (by decide)
  refine Z_iconst (dX11_init 34) ⟨by decide, by decide⟩ ?_
  refine Z_istore_n (dX11_init 35) (Nat.le_of_ble_eq_true rfl) rfl ?_
  refine Z_iload_n (dX11_init 36) rfl ?_
  refine Z_iconst (dX11_init 37) ⟨by decide, by decide⟩ ?_
  refine Z_icmp_ge (dX11_init 38) rfl (fun q => absurd q (by decide)) (fun _ => ?_)
  refine Z_aload_n (dX11_init 39) rfl ?_
  refine O_getR (r := some 15) (dX11_init 40) lk_X11_32 rfl (by decide) rfl rfl ?_
  refine Z_iload_n (dX11_init 41) rfl ?_
  refine O_new (ci := 7) (bc1 := 166) (bs1 := 10166) (dX11_init 42) (by decide) lk_X11_30 ins_X7 ini_X7 rfl z22 rfl rfl (by decide) ?_
  have z23 := zro_s z22
  refine Z_dup (dX11_init 43) rfl ?_
  refine Z_aload_n (dX11_init 44) rfl ?_
  refine O_getR (r := some 14) (dX11_init 45) lk_X11_26 rfl (by decide) rfl rfl ?_
  refine Z_callI (As := [vr (some 14)]) (S := [vr (some 16), vi 0, vr (some 15)]) (bc2 := 3) (bs2 := 1200) (bc1 := 163) (bs1 := 8966) (dX11_init 46) lk_X11_36 rfl (by decide) (by decide) rfl rfl (iSide rfl rfl rfl rfl z23 ?_)
  show Z G mX11_init _ _ _ 91 [vr (some 0), vi 0] [vr (some 16), vi 0, vr (some 15)] (ow ShC 20 _ _) K
  have z24 := iSide_z (o := 16) (a := 14) z23
  refine O_aast (dX11_init 47) rfl (by decide) (by decide) rfl (by decide) (by decide) ?_
  have z25 := zro_r (o := 15) (k := 0) (x := some 16) z24 (by decide)
  refine Z_iinc (dX11_init 48) rfl (Nat.le_of_ble_eq_true rfl) ⟨by decide, by decide⟩ rfl ?_
  refine Z_goto (dX11_init 49) rfl ?_
  refine Z_iload_n (dX11_init 36) rfl ?_
  refine Z_iconst (dX11_init 37) ⟨by decide, by decide⟩ ?_
  refine Z_icmp_ge (dX11_init 38) rfl (fun q => absurd q (by decide)) (fun _ => ?_)
  refine Z_aload_n (dX11_init 39) rfl ?_
  refine O_getR (r := some 15) (dX11_init 40) lk_X11_32 rfl (by decide) rfl rfl ?_
  refine Z_iload_n (dX11_init 41) rfl ?_
  refine O_new (ci := 7) (bc1 := 162) (bs1 := 8957) (dX11_init 42) (by decide) lk_X11_30 ins_X7 ini_X7 rfl z25 rfl rfl (by decide) ?_
  have z26 := zro_s z25
  refine Z_dup (dX11_init 43) rfl ?_
  refine Z_aload_n (dX11_init 44) rfl ?_
  refine O_getR (r := some 14) (dX11_init 45) lk_X11_26 rfl (by decide) rfl rfl ?_
  refine Z_callI (As := [vr (some 14)]) (S := [vr (some 20), vi (0 + 1), vr (some 15)]) (bc2 := 3) (bs2 := 1200) (bc1 := 159) (bs1 := 7757) (dX11_init 46) lk_X11_36 rfl (by decide) (by decide) rfl rfl (iSide rfl rfl rfl rfl z26 ?_)
  show Z G mX11_init _ _ _ 91 [vr (some 0), vi (0 + 1)] [vr (some 20), vi (0 + 1), vr (some 15)] (ow ShC 24 _ _) K
  have z27 := iSide_z (o := 20) (a := 14) z26
  refine O_aast (dX11_init 47) rfl (by decide) (by decide) rfl (by decide) (by decide) ?_
  have z28 := zro_r (o := 15) (k := 1) (x := some 20) z27 (by decide)
  refine Z_iinc (dX11_init 48) rfl (Nat.le_of_ble_eq_true rfl) ⟨by decide, by decide⟩ rfl ?_
  refine Z_goto (dX11_init 49) rfl ?_
  refine Z_iload_n (dX11_init 36) rfl ?_
  refine Z_iconst (dX11_init 37) ⟨by decide, by decide⟩ ?_
  refine Z_icmp_ge (dX11_init 38) rfl (fun _ => ?_) (fun q => absurd q (by decide))
  refine Z_aload_n (dX11_init 50) rfl ?_
  refine O_new (ci := 0) (bc1 := 158) (bs1 := 7746) (dX11_init 51) (by decide) lk_X11_39 ins_X0 ini_X0 rfl z28 rfl rfl (by decide) ?_
  have z29 := zro_s z28
  refine Z_dup (dX11_init 52) rfl ?_
  refine Z_aload_n (dX11_init 53) rfl ?_
  refine O_getR (r := some 15) (dX11_init 54) lk_X11_32 rfl (by decide) rfl rfl ?_
  refine Z_iconst (dX11_init 55) ⟨by decide, by decide⟩ ?_
  refine O_aald (r := some 16) (dX11_init 56) rfl (by decide) (by decide) (by decide) rfl ?_
  refine Z_aload_n (dX11_init 57) rfl ?_
  refine O_getR (r := some 15) (dX11_init 58) lk_X11_32 rfl (by decide) rfl rfl ?_
  refine Z_iconst (dX11_init 59) ⟨by decide, by decide⟩ ?_
  refine O_aald (r := some 20) (dX11_init 60) rfl (by decide) (by decide) (by decide) rfl ?_
  refine Z_aload_n (dX11_init 61) rfl ?_
  refine O_getR (r := some 14) (dX11_init 62) lk_X11_26 rfl (by decide) rfl rfl ?_
  refine Z_callI (As := [vr (some 16), vr (some 20), vr (some 14)]) (S := [vr (some 24), vr (some 0)]) (bc2 := 5) (bs2 := 2404) (bc1 := 153) (bs1 := 5342) (dX11_init 63) lk_X11_41 rfl (by decide) (by decide) rfl rfl (iX0  z29 ?_)
  show Z G mX11_init _ _ _ 122 [vr (some 0), vi ((0 + 1) + 1)] [vr (some 24), vr (some 0)] (ow ShC 30 _ _) K
  have z30 := iX0_z z29
  refine O_putR (dX11_init 64) lk_X11_44 rfl (by decide) rfl (Or.inr ⟨rfl, rfl, rfl⟩) ?_
  have z31 := zro_r (o := 0) (k := 4) (x := some 24) z30 (by decide)
  refine Z_aload_n (dX11_init 65) rfl ?_
  refine O_new (ci := 3) (bc1 := 152) (bs1 := 5337) (dX11_init 66) (by decide) lk_X11_48 ins_X3 ini_X3 rfl z31 rfl rfl (by decide) ?_
  have z32 := zro_s z31
  refine Z_dup (dX11_init 67) rfl ?_
  refine Z_callI (As := []) (S := [vr (some 30), vr (some 0)]) (bc2 := 1) (bs2 := 10) (bc1 := 151) (bs1 := 5327) (dX11_init 68) lk_X11_50 rfl (by decide) (by decide) rfl rfl (iX3  z32 ?_)
  show Z G mX11_init _ _ _ 133 [vr (some 0), vi ((0 + 1) + 1)] [vr (some 30), vr (some 0)] (ow ShC 32 _ _) K
  have z33 := iX3_z z32
  refine O_putR (dX11_init 69) lk_X11_51 rfl (by decide) rfl (Or.inr ⟨rfl, rfl, rfl⟩) ?_
  have z34 := zro_r (o := 0) (k := 5) (x := some 30) z33 (by decide)
  refine Z_aload_n (dX11_init 70) rfl ?_
  refine O_new (ci := 1) (bc1 := 150) (bs1 := 5319) (dX11_init 71) (by decide) lk_X11_55 ins_X1 ini_X1 rfl z34 rfl rfl (by decide) ?_
  have z35 := zro_s z34
  refine Z_dup (dX11_init 72) rfl ?_
  refine Z_callI (As := []) (S := [vr (some 32), vr (some 0)]) (bc2 := 3) (bs2 := 80) (bc1 := 147) (bs1 := 5239) (dX11_init 73) lk_X11_57 rfl (by decide) (by decide) rfl rfl (iX1  z35 ?_)
  show Z G mX11_init _ _ _ 144 [vr (some 0), vi ((0 + 1) + 1)] [vr (some 32), vr (some 0)] (ow ShC 36 _ _) K
  have z36 := iX1_z z35
  refine O_putR (dX11_init 74) lk_X11_58 rfl (by decide) rfl (Or.inr ⟨rfl, rfl, rfl⟩) ?_
  have z37 := zro_r (o := 0) (k := 6) (x := some 32) z36 (by decide)
  refine Z_aload_n (dX11_init 75) rfl ?_
  refine O_new (ci := 2) (bc1 := 146) (bs1 := 5235) (dX11_init 76) (by decide) lk_X11_62 ins_X2 ini_X2 rfl z37 rfl rfl (by decide) ?_
  have z38 := zro_s z37
  refine Z_dup (dX11_init 77) rfl ?_
  refine Z_callI (As := []) (S := [vr (some 36), vr (some 0)]) (bc2 := 3) (bs2 := 432) (bc1 := 143) (bs1 := 4803) (dX11_init 78) lk_X11_64 rfl (by decide) (by decide) rfl rfl (iX2  z38 ?_)
  show Z G mX11_init _ _ _ 155 [vr (some 0), vi ((0 + 1) + 1)] [vr (some 36), vr (some 0)] (ow ShC 40 _ _) K
  have z39 := iX2_z z38
  refine O_putR (dX11_init 79) lk_X11_65 rfl (by decide) rfl (Or.inr ⟨rfl, rfl, rfl⟩) ?_
  have z40 := zro_r (o := 0) (k := 7) (x := some 36) z39 (by decide)
  refine Z_aload_n (dX11_init 80) rfl ?_
  refine O_new (ci := 5) (bc1 := 142) (bs1 := 4792) (dX11_init 81) (by decide) lk_X11_69 ins_X5 ini_X5 rfl z40 rfl rfl (by decide) ?_
  have z41 := zro_s z40
  refine Z_dup (dX11_init 82) rfl ?_
  refine Z_aload_n (dX11_init 83) rfl ?_
  refine O_getR (r := some 10) (dX11_init 84) lk_X11_19 rfl (by decide) rfl rfl ?_
  refine Z_aload_n (dX11_init 85) rfl ?_
  refine O_getR (r := some 15) (dX11_init 86) lk_X11_32 rfl (by decide) rfl rfl ?_
  refine Z_aload_n (dX11_init 87) rfl ?_
  refine O_getR (r := some 14) (dX11_init 88) lk_X11_26 rfl (by decide) rfl rfl ?_
  refine Z_callI (As := [vr (some 10), vr (some 15), vr (some 14)]) (S := [vr (some 40), vr (some 0)]) (bc2 := 13) (bs2 := 2452) (bc1 := 129) (bs1 := 2340) (dX11_init 89) lk_X11_71 rfl (by decide) (by decide) rfl rfl (iX5  z41 ?_)
  show Z G mX11_init _ _ _ 178 [vr (some 0), vi ((0 + 1) + 1)] [vr (some 40), vr (some 0)] (ow ShC 54 _ _) K
  have z42 := iX5_z z41
  refine O_putR (dX11_init 90) lk_X11_74 rfl (by decide) rfl (Or.inr ⟨rfl, rfl, rfl⟩) ?_
  have z43 := zro_r (o := 0) (k := 8) (x := some 40) z42 (by decide)
  refine Z_aload_n (dX11_init 91) rfl ?_
  refine Z_sipush (dX11_init 92) ⟨by decide, by decide⟩ ?_
  refine O_newa (t := 2) (N := 600) (bc1 := 128) (bs1 := 1740) (dX11_init 93) (by decide) rfl acl_byte rfl z43 (by decide) rfl rfl rfl (by decide) ?_
  have z44 := zro_s z43
  refine O_putR (dX11_init 94) lk_X11_78 rfl (by decide) rfl (Or.inr ⟨rfl, rfl, rfl⟩) ?_
  have z45 := zro_r (o := 0) (k := 9) (x := some 54) z44 (by decide)
  refine Z_aload_n (dX11_init 95) rfl ?_
  refine O_new (ci := 6) (bc1 := 127) (bs1 := 1726) (dX11_init 96) (by decide) lk_X11_82 ins_X6 ini_X6 rfl z45 rfl rfl (by decide) ?_
  have z46 := zro_s z45
  refine Z_dup (dX11_init 97) rfl ?_
  refine Z_callI (As := []) (S := [vr (some 55), vr (some 0)]) (bc2 := 63) (bs2 := 856) (bc1 := 64) (bs1 := 870) (dX11_init 98) lk_X11_84 rfl (by decide) (by decide) rfl rfl (iSheet (by first | exact Or.inl rfl | exact Or.inr rfl) z46 ?_)
  show Z G mX11_init _ _ _ 198 [vr (some 0), vi ((0 + 1) + 1)] [vr (some 55), vr (some 0)] (ow ShC 119 _ _) K
  have z47 := iSheet_z (o := 55) z46
  refine O_putR (dX11_init 99) lk_X11_85 rfl (by decide) rfl (Or.inl rfl) ?_
  have z48 := zro_r (o := 0) (k := 11) (x := some 55) z47 (by decide)
  refine Z_aload_n (dX11_init 100) rfl ?_
  refine O_new (ci := 6) (bc1 := 63) (bs1 := 856) (dX11_init 101) (by decide) lk_X11_82 ins_X6 ini_X6 rfl z48 rfl rfl (by decide) ?_
  have z49 := zro_s z48
  refine Z_dup (dX11_init 102) rfl ?_
  refine Z_callI (As := []) (S := [vr (some 119), vr (some 0)]) (bc2 := 63) (bs2 := 856) (bc1 := 0) (bs1 := 0) (dX11_init 103) lk_X11_84 rfl (by decide) (by decide) rfl rfl (iSheet (by first | exact Or.inl rfl | exact Or.inr rfl) z49 ?_)
  show Z G mX11_init _ _ _ 209 [vr (some 0), vi ((0 + 1) + 1)] [vr (some 119), vr (some 0)] (ow ShC 183 _ _) K
  have z50 := iSheet_z (o := 119) z49
  refine O_putR (dX11_init 104) lk_X11_89 rfl (by decide) rfl (Or.inl rfl) ?_
  have z51 := zro_r (o := 0) (k := 12) (x := some 119) z50 (by decide)
  refine Z_aload_n (dX11_init 105) rfl ?_
  refine Z_iconst (dX11_init 106) ⟨by decide, by decide⟩ ?_
  refine O_putI (dX11_init 107) lk_X11_92 rfl (by decide) rfl (Or.inl rfl) ?_
  have z52 := zro_i (o := 0) (k := 14) (x := (-1)) z51 (by decide)
  refine Z_aload_n (dX11_init 108) rfl ?_
  refine Z_iconst (dX11_init 109) ⟨by decide, by decide⟩ ?_
  refine O_putI (dX11_init 110) lk_X11_96 rfl (by decide) rfl (Or.inl rfl) ?_
  have z53 := zro_i (o := 0) (k := 15) (x := (-1)) z52 (by decide)
  refine Z_aload_n (dX11_init 111) rfl ?_
  refine Z_sipush (dX11_init 112) ⟨by decide, by decide⟩ ?_
  refine O_putI (dX11_init 113) lk_X11_99 rfl (by decide) rfl (Or.inl rfl) ?_
  have z54 := zro_i (o := 0) (k := 16) (x := 200) z53 (by decide)
  refine Z_aload_n (dX11_init 114) rfl ?_
  refine Z_iconst (dX11_init 115) ⟨by decide, by decide⟩ ?_
  refine O_putI (dX11_init 116) lk_X11_102 rfl (by decide) rfl (Or.inl rfl) ?_
  have z55 := zro_i (o := 0) (k := 17) (x := 0) z54 (by decide)
  exact Z_return (dX11_init 117) rfl k
set_option maxRecDepth 100000 in
set_option maxHeartbeats 4000000 in
theorem iX11_z {iv : Nat → Nat → Int} {rv : Nat → Nat → Option Nat} (hz : zro 1 iv rv) : zro 183 (iu (iu (iu (iu (iu (iu (ifill (iu (iu (iu (iu (iu (iu (iu (iu (iu (iu (iu (iu (iu (iu (iu (iu iv 2 1 (-1)) 4 1 (-1)) 6 1 (-1)) 8 1 (-1)) 14 0 4) 14 1 8) 16 5 (-1)) 16 7 (-1)) 20 5 (-1)) 20 7 (-1)) 24 9 (-1)) 30 3 (-1)) 42 5 (-1)) 42 7 (-1)) 46 5 (-1)) 46 7 (-1)) 50 0 8 (-1)) 40 9 (-1)) 40 10 (-1)) 0 14 (-1)) 0 15 (-1)) 0 16 200) 0 17 0) (ru (shR (ru (shR (ru (ru (ru (ru (ru (ru (ru (ru (ru (ru (ru (ru (ru (ru (ru (ru (ru (ru (ru (ru (ru (ru (ru (ru (ru (ru (ru (ru (ru (ru (ru (ru (ru (ru (ru (ru (ru (ru (ru (ru (ru (ru (ru (ru (ru (ru (ru (ru (ru (ru (ru (ru (ru (ru (ru (ru (ru (ru (ru (ru (ru (ru (ru rv 0 0 (some 1)) 2 0 (some 3)) 1 0 (some 2)) 4 0 (some 5)) 1 1 (some 4)) 6 0 (some 7)) 1 2 (some 6)) 8 0 (some 9)) 1 3 (some 8)) 10 0 (some 11)) 10 1 (some 12)) 10 2 (some 13)) 0 1 (some 10)) 0 2 (some 14)) 0 3 (some 15)) 16 0 (some 14)) 16 1 (some 17)) 16 2 (some 18)) 16 3 (some 19)) 15 0 (some 16)) 20 0 (some 14)) 20 1 (some 21)) 20 2 (some 22)) 20 3 (some 23)) 15 1 (some 20)) 24 0 (some 25)) 25 0 (some 16)) 25 1 (some 20)) 24 1 (some 14)) 24 2 (some 26)) 24 3 (some 27)) 24 4 (some 28)) 24 5 (some 29)) 0 4 (some 24)) 30 0 (some 31)) 0 5 (some 30)) 32 0 (some 33)) 32 1 (some 34)) 32 2 (some 35)) 0 6 (some 32)) 36 0 (some 37)) 36 1 (some 38)) 36 2 (some 39)) 0 7 (some 36)) 40 0 (some 10)) 40 1 (some 15)) 40 2 (some 41)) 42 0 (some 14)) 42 1 (some 43)) 42 2 (some 44)) 42 3 (some 45)) 41 0 (some 42)) 46 0 (some 14)) 46 1 (some 47)) 46 2 (some 48)) 46 3 (some 49)) 41 1 (some 46)) 40 3 (some 50)) 40 4 (some 51)) 40 5 (some 52)) 40 6 (some 53)) 0 8 (some 40)) 0 9 (some 54)) 55) 0 11 (some 55)) 119) 0 12 (some 119)) := by
  have z1 := zro_s hz
  have z2 := zro_r (o := 0) (k := 0) (x := some 1) z1 (by decide)
  have z3 := zro_s z2
  have z4 := iTray_z (o := 2) z3
  have z5 := zro_r (o := 1) (k := 0) (x := some 2) z4 (by decide)
  have z6 := zro_s z5
  have z7 := iTray_z (o := 4) z6
  have z8 := zro_r (o := 1) (k := 1) (x := some 4) z7 (by decide)
  have z9 := zro_s z8
  have z10 := iTray_z (o := 6) z9
  have z11 := zro_r (o := 1) (k := 2) (x := some 6) z10 (by decide)
  have z12 := zro_s z11
  have z13 := iTray_z (o := 8) z12
  have z14 := zro_r (o := 1) (k := 3) (x := some 8) z13 (by decide)
  have z15 := zro_s z14
  have z16 := iX8_z z15
  have z17 := zro_r (o := 0) (k := 1) (x := some 10) z16 (by decide)
  have z18 := zro_s z17
  have z19 := iX4_z z18
  have z20 := zro_r (o := 0) (k := 2) (x := some 14) z19 (by decide)
  have z21 := zro_s z20
  have z22 := zro_r (o := 0) (k := 3) (x := some 15) z21 (by decide)
  have z23 := zro_s z22
  have z24 := iSide_z (o := 16) (a := 14) z23
  have z25 := zro_r (o := 15) (k := 0) (x := some 16) z24 (by decide)
  have z26 := zro_s z25
  have z27 := iSide_z (o := 20) (a := 14) z26
  have z28 := zro_r (o := 15) (k := 1) (x := some 20) z27 (by decide)
  have z29 := zro_s z28
  have z30 := iX0_z z29
  have z31 := zro_r (o := 0) (k := 4) (x := some 24) z30 (by decide)
  have z32 := zro_s z31
  have z33 := iX3_z z32
  have z34 := zro_r (o := 0) (k := 5) (x := some 30) z33 (by decide)
  have z35 := zro_s z34
  have z36 := iX1_z z35
  have z37 := zro_r (o := 0) (k := 6) (x := some 32) z36 (by decide)
  have z38 := zro_s z37
  have z39 := iX2_z z38
  have z40 := zro_r (o := 0) (k := 7) (x := some 36) z39 (by decide)
  have z41 := zro_s z40
  have z42 := iX5_z z41
  have z43 := zro_r (o := 0) (k := 8) (x := some 40) z42 (by decide)
  have z44 := zro_s z43
  have z45 := zro_r (o := 0) (k := 9) (x := some 54) z44 (by decide)
  have z46 := zro_s z45
  have z47 := iSheet_z (o := 55) z46
  have z48 := zro_r (o := 0) (k := 11) (x := some 55) z47 (by decide)
  have z49 := zro_s z48
  have z50 := iSheet_z (o := 119) z49
  have z51 := zro_r (o := 0) (k := 12) (x := some 119) z50 (by decide)
  have z52 := zro_i (o := 0) (k := 14) (x := (-1)) z51 (by decide)
  have z53 := zro_i (o := 0) (k := 15) (x := (-1)) z52 (by decide)
  have z54 := zro_i (o := 0) (k := 16) (x := 200) z53 (by decide)
  have z55 := zro_i (o := 0) (k := 17) (x := 0) z54 (by decide)
  exact z55
set_option maxRecDepth 100000 in
set_option maxHeartbeats 4000000 in
theorem iX12 {G : ZG} {d : Nat} {iv : Nat → Nat → Int} {rv : Nat → Nat → Option Nat} {K : Option AV → AH → Prop} (hz : zro 1 iv rv) (k : K none (ow ShM 55 (iu (iu (iu (iu (iu (iu (iu (iu (iu (iu (iu (iu (iu (iu (iu (iu (iu (iu (iu (iu (iu iv 2 0 (-1)) 2 1 (-1)) 2 2 (-1)) 2 3 (-1)) 0 5 4) 0 6 8) 0 7 200) 10 0 (-1)) 10 1 (-1)) 0 49 (-1)) 0 50 (-1)) 47 0 (-1)) 47 1 (-1)) 47 2 (-1)) 47 3 (-1)) 47 4 (-1)) 47 5 (-1)) 47 6 (-1)) 47 7 (-1)) 0 79 (-1)) 0 80 (-1)) (ru (ru (ru (ru (ru (ru (ru (ru (ru (ru (ru (ru (ru (ru (ru (ru (ru (ru (ru (ru (ru (ru (ru (ru (ru (ru (ru (ru (ru (ru (ru (ru (ru (ru (ru (ru (ru (ru (ru (ru (ru (ru (ru (ru (ru (ru (ru (ru (ru (ru (ru (ru (ru (ru rv 0 1 (some 1)) 0 2 (some 2)) 0 3 (some 3)) 0 8 (some 4)) 0 9 (some 5)) 0 10 (some 6)) 0 11 (some 7)) 0 12 (some 8)) 0 13 (some 9)) 0 14 (some 10)) 0 15 (some 11)) 0 16 (some 12)) 0 17 (some 13)) 0 18 (some 14)) 0 19 (some 15)) 0 21 (some 16)) 0 22 (some 17)) 0 23 (some 18)) 0 24 (some 19)) 0 26 (some 20)) 0 27 (some 21)) 0 28 (some 22)) 0 29 (some 23)) 0 34 (some 24)) 0 35 (some 25)) 0 36 (some 26)) 0 39 (some 27)) 0 41 (some 28)) 0 42 (some 29)) 0 53 (some 30)) 0 54 (some 31)) 0 55 (some 32)) 0 56 (some 33)) 0 57 (some 34)) 0 58 (some 35)) 0 59 (some 36)) 0 60 (some 37)) 0 61 (some 38)) 0 62 (some 39)) 0 63 (some 40)) 0 64 (some 41)) 0 65 (some 42)) 0 66 (some 43)) 0 67 (some 44)) 0 72 (some 45)) 0 73 (some 46)) 0 75 (some 47)) 0 76 (some 48)) 0 77 (some 49)) 0 78 (some 50)) 0 82 (some 51)) 0 83 (some 52)) 0 84 (some 53)) 0 85 (some 54)))) : Z G mX12_init d 54 74512 0 [vr (some 0)] [] (ow ShM 1 iv rv) K := by
  refine Z_aload_n (dX12_init 0) rfl ?_
  refine Z_objI (dX12_init 1) lk_X12_1 obj_in obj_code (by decide) ?_
  refine Z_aload_n (dX12_init 2) rfl ?_
  refine Z_iconst (dX12_init 3) ⟨by decide, by decide⟩ ?_
  refine O_newa (t := 0) (N := 4) (bc1 := 53) (bs1 := 74508) (dX12_init 4) (by decide) rfl acl_int rfl hz (by decide) rfl rfl rfl (by decide) ?_
  have z1 := zro_s hz
  refine O_putR (dX12_init 5) lk_X12_7 rfl (by decide) rfl (Or.inr ⟨rfl, rfl, rfl⟩) ?_
  have z2 := zro_r (o := 0) (k := 1) (x := some 1) z1 (by decide)
  refine Z_aload_n (dX12_init 6) rfl ?_
  refine Z_iconst (dX12_init 7) ⟨by decide, by decide⟩ ?_
  refine O_newa (t := 0) (N := 4) (bc1 := 52) (bs1 := 74504) (dX12_init 8) (by decide) rfl acl_int rfl z2 (by decide) rfl rfl rfl (by decide) ?_
  have z3 := zro_s z2
  refine Z_dup (dX12_init 9) rfl ?_
  refine Z_iconst (dX12_init 10) ⟨by decide, by decide⟩ ?_
  refine Z_iconst (dX12_init 11) ⟨by decide, by decide⟩ ?_
  refine O_iast (dX12_init 12) rfl (by decide) (by decide) ?_
  have z4 := zro_i (o := 2) (k := 0) (x := (-1)) z3 (by decide)
  refine Z_dup (dX12_init 13) rfl ?_
  refine Z_iconst (dX12_init 14) ⟨by decide, by decide⟩ ?_
  refine Z_iconst (dX12_init 15) ⟨by decide, by decide⟩ ?_
  refine O_iast (dX12_init 16) rfl (by decide) (by decide) ?_
  have z5 := zro_i (o := 2) (k := 1) (x := (-1)) z4 (by decide)
  refine Z_dup (dX12_init 17) rfl ?_
  refine Z_iconst (dX12_init 18) ⟨by decide, by decide⟩ ?_
  refine Z_iconst (dX12_init 19) ⟨by decide, by decide⟩ ?_
  refine O_iast (dX12_init 20) rfl (by decide) (by decide) ?_
  have z6 := zro_i (o := 2) (k := 2) (x := (-1)) z5 (by decide)
  refine Z_dup (dX12_init 21) rfl ?_
  refine Z_iconst (dX12_init 22) ⟨by decide, by decide⟩ ?_
  refine Z_iconst (dX12_init 23) ⟨by decide, by decide⟩ ?_
  refine O_iast (dX12_init 24) rfl (by decide) (by decide) ?_
  have z7 := zro_i (o := 2) (k := 3) (x := (-1)) z6 (by decide)
  refine O_putR (dX12_init 25) lk_X12_13 rfl (by decide) rfl (Or.inr ⟨rfl, rfl, rfl⟩) ?_
  have z8 := zro_r (o := 0) (k := 2) (x := some 2) z7 (by decide)
  refine Z_aload_n (dX12_init 26) rfl ?_
  refine Z_sipush (dX12_init 27) ⟨by decide, by decide⟩ ?_
  refine O_newa (t := 1) (N := 240) (bc1 := 51) (bs1 := 74264) (dX12_init 28) (by decide) rfl acl_long rfl z8 (by decide) rfl rfl rfl (by decide) ?_
  have z9 := zro_s z8
  refine O_putR (dX12_init 29) lk_X12_16 rfl (by decide) rfl (Or.inr ⟨rfl, rfl, rfl⟩) ?_
  have z10 := zro_r (o := 0) (k := 3) (x := some 3) z9 (by decide)
  refine Z_aload_n (dX12_init 30) rfl ?_
  refine Z_iconst (dX12_init 31) ⟨by decide, by decide⟩ ?_
  refine O_putI (dX12_init 32) lk_X12_20 rfl (by decide) rfl (Or.inl rfl) ?_
  have z11 := zro_i (o := 0) (k := 5) (x := 4) z10 (by decide)
  refine Z_aload_n (dX12_init 33) rfl ?_
  refine Z_bipush (dX12_init 34) ⟨by decide, by decide⟩ ?_
  refine O_putI (dX12_init 35) lk_X12_24 rfl (by decide) rfl (Or.inl rfl) ?_
  have z12 := zro_i (o := 0) (k := 6) (x := 8) z11 (by decide)
  refine Z_aload_n (dX12_init 36) rfl ?_
  refine Z_sipush (dX12_init 37) ⟨by decide, by decide⟩ ?_
  refine O_putI (dX12_init 38) lk_X12_27 rfl (by decide) rfl (Or.inl rfl) ?_
  have z13 := zro_i (o := 0) (k := 7) (x := 200) z12 (by decide)
  refine Z_aload_n (dX12_init 39) rfl ?_
  refine Z_bipush (dX12_init 40) ⟨by decide, by decide⟩ ?_
  refine O_newa (t := 0) (N := 10) (bc1 := 50) (bs1 := 74254) (dX12_init 41) (by decide) rfl acl_int rfl z13 (by decide) rfl rfl rfl (by decide) ?_
  have z14 := zro_s z13
  refine O_putR (dX12_init 42) lk_X12_30 rfl (by decide) rfl (Or.inr ⟨rfl, rfl, rfl⟩) ?_
  have z15 := zro_r (o := 0) (k := 8) (x := some 4) z14 (by decide)
  refine Z_aload_n (dX12_init 43) rfl ?_
  refine Z_bipush (dX12_init 44) ⟨by decide, by decide⟩ ?_
  refine O_newa (t := 0) (N := 10) (bc1 := 49) (bs1 := 74244) (dX12_init 45) (by decide) rfl acl_int rfl z15 (by decide) rfl rfl rfl (by decide) ?_
  have z16 := zro_s z15
  refine O_putR (dX12_init 46) lk_X12_33 rfl (by decide) rfl (Or.inr ⟨rfl, rfl, rfl⟩) ?_
  have z17 := zro_r (o := 0) (k := 9) (x := some 5) z16 (by decide)
  refine Z_aload_n (dX12_init 47) rfl ?_
  refine Z_sipush (dX12_init 48) ⟨by decide, by decide⟩ ?_
  refine O_newa (t := 0) (N := 600) (bc1 := 48) (bs1 := 73644) (dX12_init 49) (by decide) rfl acl_int rfl z17 (by decide) rfl rfl rfl (by decide) ?_
  have z18 := zro_s z17
  refine O_putR (dX12_init 50) lk_X12_36 rfl (by decide) rfl (Or.inr ⟨rfl, rfl, rfl⟩) ?_
  have z19 := zro_r (o := 0) (k := 10) (x := some 6) z18 (by decide)
  refine Z_aload_n (dX12_init 51) rfl ?_
  refine Z_iconst (dX12_init 52) ⟨by decide, by decide⟩ ?_
  refine O_newa (t := 0) (N := 2) (bc1 := 47) (bs1 := 73642) (dX12_init 53) (by decide) rfl acl_int rfl z19 (by decide) rfl rfl rfl (by decide) ?_
  have z20 := zro_s z19
  refine O_putR (dX12_init 54) lk_X12_39 rfl (by decide) rfl (Or.inr ⟨rfl, rfl, rfl⟩) ?_
  have z21 := zro_r (o := 0) (k := 11) (x := some 7) z20 (by decide)
  refine Z_aload_n (dX12_init 55) rfl ?_
  refine Z_sipush (dX12_init 56) ⟨by decide, by decide⟩ ?_
  refine O_newa (t := 0) (N := 800) (bc1 := 46) (bs1 := 72842) (dX12_init 57) (by decide) rfl acl_int rfl z21 (by decide) rfl rfl rfl (by decide) ?_
  have z22 := zro_s z21
  refine O_putR (dX12_init 58) lk_X12_42 rfl (by decide) rfl (Or.inr ⟨rfl, rfl, rfl⟩) ?_
  have z23 := zro_r (o := 0) (k := 12) (x := some 8) z22 (by decide)
  refine Z_aload_n (dX12_init 59) rfl ?_
  refine Z_sipush (dX12_init 60) ⟨by decide, by decide⟩ ?_
  refine O_newa (t := 0) (N := 800) (bc1 := 45) (bs1 := 72042) (dX12_init 61) (by decide) rfl acl_int rfl z23 (by decide) rfl rfl rfl (by decide) ?_
  have z24 := zro_s z23
  refine O_putR (dX12_init 62) lk_X12_45 rfl (by decide) rfl (Or.inr ⟨rfl, rfl, rfl⟩) ?_
  have z25 := zro_r (o := 0) (k := 13) (x := some 9) z24 (by decide)
  refine Z_aload_n (dX12_init 63) rfl ?_
  refine Z_iconst (dX12_init 64) ⟨by decide, by decide⟩ ?_
  refine O_newa (t := 0) (N := 2) (bc1 := 44) (bs1 := 72040) (dX12_init 65) (by decide) rfl acl_int rfl z25 (by decide) rfl rfl rfl (by decide) ?_
  have z26 := zro_s z25
  refine Z_dup (dX12_init 66) rfl ?_
  refine Z_iconst (dX12_init 67) ⟨by decide, by decide⟩ ?_
  refine Z_iconst (dX12_init 68) ⟨by decide, by decide⟩ ?_
  refine O_iast (dX12_init 69) rfl (by decide) (by decide) ?_
  have z27 := zro_i (o := 10) (k := 0) (x := (-1)) z26 (by decide)
  refine Z_dup (dX12_init 70) rfl ?_
  refine Z_iconst (dX12_init 71) ⟨by decide, by decide⟩ ?_
  refine Z_iconst (dX12_init 72) ⟨by decide, by decide⟩ ?_
  refine O_iast (dX12_init 73) rfl (by decide) (by decide) ?_
  have z28 := zro_i (o := 10) (k := 1) (x := (-1)) z27 (by decide)
  refine O_putR (dX12_init 74) lk_X12_48 rfl (by decide) rfl (Or.inr ⟨rfl, rfl, rfl⟩) ?_
  have z29 := zro_r (o := 0) (k := 14) (x := some 10) z28 (by decide)
  refine Z_aload_n (dX12_init 75) rfl ?_
  refine Z_iconst (dX12_init 76) ⟨by decide, by decide⟩ ?_
  refine O_newa (t := 0) (N := 2) (bc1 := 43) (bs1 := 72038) (dX12_init 77) (by decide) rfl acl_int rfl z29 (by decide) rfl rfl rfl (by decide) ?_
  have z30 := zro_s z29
  refine O_putR (dX12_init 78) lk_X12_51 rfl (by decide) rfl (Or.inr ⟨rfl, rfl, rfl⟩) ?_
  have z31 := zro_r (o := 0) (k := 15) (x := some 11) z30 (by decide)
  refine Z_aload_n (dX12_init 79) rfl ?_
  refine Z_sipush (dX12_init 80) ⟨by decide, by decide⟩ ?_
  refine O_newa (t := 0) (N := 800) (bc1 := 42) (bs1 := 71238) (dX12_init 81) (by decide) rfl acl_int rfl z31 (by decide) rfl rfl rfl (by decide) ?_
  have z32 := zro_s z31
  refine O_putR (dX12_init 82) lk_X12_54 rfl (by decide) rfl (Or.inr ⟨rfl, rfl, rfl⟩) ?_
  have z33 := zro_r (o := 0) (k := 16) (x := some 12) z32 (by decide)
  refine Z_aload_n (dX12_init 83) rfl ?_
  refine Z_sipush (dX12_init 84) ⟨by decide, by decide⟩ ?_
  refine O_newa (t := 0) (N := 800) (bc1 := 41) (bs1 := 70438) (dX12_init 85) (by decide) rfl acl_int rfl z33 (by decide) rfl rfl rfl (by decide) ?_
  have z34 := zro_s z33
  refine O_putR (dX12_init 86) lk_X12_57 rfl (by decide) rfl (Or.inr ⟨rfl, rfl, rfl⟩) ?_
  have z35 := zro_r (o := 0) (k := 17) (x := some 13) z34 (by decide)
  refine Z_aload_n (dX12_init 87) rfl ?_
  refine Z_iconst (dX12_init 88) ⟨by decide, by decide⟩ ?_
  refine O_newa (t := 0) (N := 2) (bc1 := 40) (bs1 := 70436) (dX12_init 89) (by decide) rfl acl_int rfl z35 (by decide) rfl rfl rfl (by decide) ?_
  have z36 := zro_s z35
  refine O_putR (dX12_init 90) lk_X12_60 rfl (by decide) rfl (Or.inr ⟨rfl, rfl, rfl⟩) ?_
  have z37 := zro_r (o := 0) (k := 18) (x := some 14) z36 (by decide)
  refine Z_aload_n (dX12_init 91) rfl ?_
  refine Z_sipush (dX12_init 92) ⟨by decide, by decide⟩ ?_
  refine O_newa (t := 0) (N := 800) (bc1 := 39) (bs1 := 69636) (dX12_init 93) (by decide) rfl acl_int rfl z37 (by decide) rfl rfl rfl (by decide) ?_
  have z38 := zro_s z37
  refine O_putR (dX12_init 94) lk_X12_63 rfl (by decide) rfl (Or.inr ⟨rfl, rfl, rfl⟩) ?_
  have z39 := zro_r (o := 0) (k := 19) (x := some 15) z38 (by decide)
  refine Z_aload_n (dX12_init 95) rfl ?_
  refine Z_bipush (dX12_init 96) ⟨by decide, by decide⟩ ?_
  refine O_newa (t := 0) (N := 20) (bc1 := 38) (bs1 := 69616) (dX12_init 97) (by decide) rfl acl_int rfl z39 (by decide) rfl rfl rfl (by decide) ?_
  have z40 := zro_s z39
  refine O_putR (dX12_init 98) lk_X12_66 rfl (by decide) rfl (Or.inr ⟨rfl, rfl, rfl⟩) ?_
  have z41 := zro_r (o := 0) (k := 21) (x := some 16) z40 (by decide)
  refine Z_aload_n (dX12_init 99) rfl ?_
  refine Z_iconst (dX12_init 100) ⟨by decide, by decide⟩ ?_
  refine O_newa (t := 0) (N := 2) (bc1 := 37) (bs1 := 69614) (dX12_init 101) (by decide) rfl acl_int rfl z41 (by decide) rfl rfl rfl (by decide) ?_
  have z42 := zro_s z41
  refine O_putR (dX12_init 102) lk_X12_69 rfl (by decide) rfl (Or.inr ⟨rfl, rfl, rfl⟩) ?_
  have z43 := zro_r (o := 0) (k := 22) (x := some 17) z42 (by decide)
  refine Z_aload_n (dX12_init 103) rfl ?_
  refine Z_bipush (dX12_init 104) ⟨by decide, by decide⟩ ?_
  refine O_newa (t := 0) (N := 20) (bc1 := 36) (bs1 := 69594) (dX12_init 105) (by decide) rfl acl_int rfl z43 (by decide) rfl rfl rfl (by decide) ?_
  have z44 := zro_s z43
  refine O_putR (dX12_init 106) lk_X12_72 rfl (by decide) rfl (Or.inr ⟨rfl, rfl, rfl⟩) ?_
  have z45 := zro_r (o := 0) (k := 23) (x := some 18) z44 (by decide)
  refine Z_aload_n (dX12_init 107) rfl ?_
  refine Z_iconst (dX12_init 108) ⟨by decide, by decide⟩ ?_
  refine O_newa (t := 0) (N := 2) (bc1 := 35) (bs1 := 69592) (dX12_init 109) (by decide) rfl acl_int rfl z45 (by decide) rfl rfl rfl (by decide) ?_
  have z46 := zro_s z45
  refine O_putR (dX12_init 110) lk_X12_75 rfl (by decide) rfl (Or.inr ⟨rfl, rfl, rfl⟩) ?_
  have z47 := zro_r (o := 0) (k := 24) (x := some 19) z46 (by decide)
  refine Z_aload_n (dX12_init 111) rfl ?_
  refine Z_sipush (dX12_init 112) ⟨by decide, by decide⟩ ?_
  refine O_newa (t := 3) (N := 800) (bc1 := 34) (bs1 := 68792) (dX12_init 113) (by decide) rfl acl_boolean rfl z47 (by decide) rfl rfl rfl (by decide) ?_
  have z48 := zro_s z47
  refine O_putR (dX12_init 114) lk_X12_78 rfl (by decide) rfl (Or.inr ⟨rfl, rfl, rfl⟩) ?_
  have z49 := zro_r (o := 0) (k := 26) (x := some 20) z48 (by decide)
  refine Z_aload_n (dX12_init 115) rfl ?_
  refine Z_bipush (dX12_init 116) ⟨by decide, by decide⟩ ?_
  refine O_newa (t := 0) (N := 16) (bc1 := 33) (bs1 := 68776) (dX12_init 117) (by decide) rfl acl_int rfl z49 (by decide) rfl rfl rfl (by decide) ?_
  have z50 := zro_s z49
  refine O_putR (dX12_init 118) lk_X12_82 rfl (by decide) rfl (Or.inr ⟨rfl, rfl, rfl⟩) ?_
  have z51 := zro_r (o := 0) (k := 27) (x := some 21) z50 (by decide)
  refine Z_aload_n (dX12_init 119) rfl ?_
  refine Z_bipush (dX12_init 120) ⟨by decide, by decide⟩ ?_
  refine O_newa (t := 0) (N := 16) (bc1 := 32) (bs1 := 68760) (dX12_init 121) (by decide) rfl acl_int rfl z51 (by decide) rfl rfl rfl (by decide) ?_
  have z52 := zro_s z51
  refine O_putR (dX12_init 122) lk_X12_85 rfl (by decide) rfl (Or.inr ⟨rfl, rfl, rfl⟩) ?_
  have z53 := zro_r (o := 0) (k := 28) (x := some 22) z52 (by decide)
  refine Z_aload_n (dX12_init 123) rfl ?_
  refine Z_ldc (dX12_init 124) lk_X12_88 ?_
  refine O_newa (t := 0) (N := 65536) (bc1 := 31) (bs1 := 3224) (dX12_init 125) (by decide) rfl acl_int rfl z53 (by decide) rfl rfl rfl (by decide) ?_
  have z54 := zro_s z53
  refine O_putR (dX12_init 126) lk_X12_89 rfl (by decide) rfl (Or.inr ⟨rfl, rfl, rfl⟩) ?_
  have z55 := zro_r (o := 0) (k := 29) (x := some 23) z54 (by decide)
  refine Z_aload_n (dX12_init 127) rfl ?_
  refine Z_bipush (dX12_init 128) ⟨by decide, by decide⟩ ?_
  refine O_newa (t := 0) (N := 48) (bc1 := 30) (bs1 := 3176) (dX12_init 129) (by decide) rfl acl_int rfl z55 (by decide) rfl rfl rfl (by decide) ?_
  have z56 := zro_s z55
  refine O_putR (dX12_init 130) lk_X12_92 rfl (by decide) rfl (Or.inr ⟨rfl, rfl, rfl⟩) ?_
  have z57 := zro_r (o := 0) (k := 34) (x := some 24) z56 (by decide)
  refine Z_aload_n (dX12_init 131) rfl ?_
  refine Z_bipush (dX12_init 132) ⟨by decide, by decide⟩ ?_
  refine O_newa (t := 0) (N := 16) (bc1 := 29) (bs1 := 3160) (dX12_init 133) (by decide) rfl acl_int rfl z57 (by decide) rfl rfl rfl (by decide) ?_
  have z58 := zro_s z57
  refine O_putR (dX12_init 134) lk_X12_95 rfl (by decide) rfl (Or.inr ⟨rfl, rfl, rfl⟩) ?_
  have z59 := zro_r (o := 0) (k := 35) (x := some 25) z58 (by decide)
  refine Z_aload_n (dX12_init 135) rfl ?_
  refine Z_bipush (dX12_init 136) ⟨by decide, by decide⟩ ?_
  refine O_newa (t := 0) (N := 16) (bc1 := 28) (bs1 := 3144) (dX12_init 137) (by decide) rfl acl_int rfl z59 (by decide) rfl rfl rfl (by decide) ?_
  have z60 := zro_s z59
  refine O_putR (dX12_init 138) lk_X12_98 rfl (by decide) rfl (Or.inr ⟨rfl, rfl, rfl⟩) ?_
  have z61 := zro_r (o := 0) (k := 36) (x := some 26) z60 (by decide)
  refine Z_aload_n (dX12_init 139) rfl ?_
  refine Z_sipush (dX12_init 140) ⟨by decide, by decide⟩ ?_
  refine O_newa (t := 3) (N := 408) (bc1 := 27) (bs1 := 2736) (dX12_init 141) (by decide) rfl acl_boolean rfl z61 (by decide) rfl rfl rfl (by decide) ?_
  have z62 := zro_s z61
  refine O_putR (dX12_init 142) lk_X12_101 rfl (by decide) rfl (Or.inr ⟨rfl, rfl, rfl⟩) ?_
  have z63 := zro_r (o := 0) (k := 39) (x := some 27) z62 (by decide)
  refine Z_aload_n (dX12_init 143) rfl ?_
  refine Z_sipush (dX12_init 144) ⟨by decide, by decide⟩ ?_
  refine O_newa (t := 2) (N := 600) (bc1 := 26) (bs1 := 2136) (dX12_init 145) (by decide) rfl acl_byte rfl z63 (by decide) rfl rfl rfl (by decide) ?_
  have z64 := zro_s z63
  refine O_putR (dX12_init 146) lk_X12_104 rfl (by decide) rfl (Or.inr ⟨rfl, rfl, rfl⟩) ?_
  have z65 := zro_r (o := 0) (k := 41) (x := some 28) z64 (by decide)
  refine Z_aload_n (dX12_init 147) rfl ?_
  refine Z_sipush (dX12_init 148) ⟨by decide, by decide⟩ ?_
  refine O_newa (t := 2) (N := 600) (bc1 := 25) (bs1 := 1536) (dX12_init 149) (by decide) rfl acl_byte rfl z65 (by decide) rfl rfl rfl (by decide) ?_
  have z66 := zro_s z65
  refine O_putR (dX12_init 150) lk_X12_108 rfl (by decide) rfl (Or.inr ⟨rfl, rfl, rfl⟩) ?_
  have z67 := zro_r (o := 0) (k := 42) (x := some 29) z66 (by decide)
  refine Z_aload_n (dX12_init 151) rfl ?_
  refine Z_iconst (dX12_init 152) ⟨by decide, by decide⟩ ?_
  refine O_putI (dX12_init 153) lk_X12_111 rfl (by decide) rfl (Or.inl rfl) ?_
  have z68 := zro_i (o := 0) (k := 49) (x := (-1)) z67 (by decide)
  refine Z_aload_n (dX12_init 154) rfl ?_
  refine Z_iconst (dX12_init 155) ⟨by decide, by decide⟩ ?_
  refine O_putI (dX12_init 156) lk_X12_114 rfl (by decide) rfl (Or.inl rfl) ?_
  have z69 := zro_i (o := 0) (k := 50) (x := (-1)) z68 (by decide)
  refine Z_aload_n (dX12_init 157) rfl ?_
  refine Z_bipush (dX12_init 158) ⟨by decide, by decide⟩ ?_
  refine O_newa (t := 0) (N := 60) (bc1 := 24) (bs1 := 1476) (dX12_init 159) (by decide) rfl acl_int rfl z69 (by decide) rfl rfl rfl (by decide) ?_
  have z70 := zro_s z69
  refine O_putR (dX12_init 160) lk_X12_117 rfl (by decide) rfl (Or.inr ⟨rfl, rfl, rfl⟩) ?_
  have z71 := zro_r (o := 0) (k := 53) (x := some 30) z70 (by decide)
  refine Z_aload_n (dX12_init 161) rfl ?_
  refine Z_bipush (dX12_init 162) ⟨by decide, by decide⟩ ?_
  refine O_newa (t := 0) (N := 60) (bc1 := 23) (bs1 := 1416) (dX12_init 163) (by decide) rfl acl_int rfl z71 (by decide) rfl rfl rfl (by decide) ?_
  have z72 := zro_s z71
  refine O_putR (dX12_init 164) lk_X12_120 rfl (by decide) rfl (Or.inr ⟨rfl, rfl, rfl⟩) ?_
  have z73 := zro_r (o := 0) (k := 54) (x := some 31) z72 (by decide)
  refine Z_aload_n (dX12_init 165) rfl ?_
  refine Z_bipush (dX12_init 166) ⟨by decide, by decide⟩ ?_
  refine O_newa (t := 0) (N := 60) (bc1 := 22) (bs1 := 1356) (dX12_init 167) (by decide) rfl acl_int rfl z73 (by decide) rfl rfl rfl (by decide) ?_
  have z74 := zro_s z73
  refine O_putR (dX12_init 168) lk_X12_123 rfl (by decide) rfl (Or.inr ⟨rfl, rfl, rfl⟩) ?_
  have z75 := zro_r (o := 0) (k := 55) (x := some 32) z74 (by decide)
  refine Z_aload_n (dX12_init 169) rfl ?_
  refine Z_bipush (dX12_init 170) ⟨by decide, by decide⟩ ?_
  refine O_newa (t := 0) (N := 60) (bc1 := 21) (bs1 := 1296) (dX12_init 171) (by decide) rfl acl_int rfl z75 (by decide) rfl rfl rfl (by decide) ?_
  have z76 := zro_s z75
  refine O_putR (dX12_init 172) lk_X12_126 rfl (by decide) rfl (Or.inr ⟨rfl, rfl, rfl⟩) ?_
  have z77 := zro_r (o := 0) (k := 56) (x := some 33) z76 (by decide)
  refine Z_aload_n (dX12_init 173) rfl ?_
  refine Z_bipush (dX12_init 174) ⟨by decide, by decide⟩ ?_
  refine O_newa (t := 0) (N := 60) (bc1 := 20) (bs1 := 1236) (dX12_init 175) (by decide) rfl acl_int rfl z77 (by decide) rfl rfl rfl (by decide) ?_
  have z78 := zro_s z77
  refine O_putR (dX12_init 176) lk_X12_129 rfl (by decide) rfl (Or.inr ⟨rfl, rfl, rfl⟩) ?_
  have z79 := zro_r (o := 0) (k := 57) (x := some 34) z78 (by decide)
  refine Z_aload_n (dX12_init 177) rfl ?_
  refine Z_bipush (dX12_init 178) ⟨by decide, by decide⟩ ?_
  refine O_newa (t := 0) (N := 60) (bc1 := 19) (bs1 := 1176) (dX12_init 179) (by decide) rfl acl_int rfl z79 (by decide) rfl rfl rfl (by decide) ?_
  have z80 := zro_s z79
  refine O_putR (dX12_init 180) lk_X12_132 rfl (by decide) rfl (Or.inr ⟨rfl, rfl, rfl⟩) ?_
  have z81 := zro_r (o := 0) (k := 58) (x := some 35) z80 (by decide)
  refine Z_aload_n (dX12_init 181) rfl ?_
  refine Z_bipush (dX12_init 182) ⟨by decide, by decide⟩ ?_
  refine O_newa (t := 0) (N := 60) (bc1 := 18) (bs1 := 1116) (dX12_init 183) (by decide) rfl acl_int rfl z81 (by decide) rfl rfl rfl (by decide) ?_
  have z82 := zro_s z81
  refine O_putR (dX12_init 184) lk_X12_135 rfl (by decide) rfl (Or.inr ⟨rfl, rfl, rfl⟩) ?_
  have z83 := zro_r (o := 0) (k := 59) (x := some 36) z82 (by decide)
  refine Z_aload_n (dX12_init 185) rfl ?_
  refine Z_bipush (dX12_init 186) ⟨by decide, by decide⟩ ?_
  refine O_newa (t := 0) (N := 60) (bc1 := 17) (bs1 := 1056) (dX12_init 187) (by decide) rfl acl_int rfl z83 (by decide) rfl rfl rfl (by decide) ?_
  have z84 := zro_s z83
  refine O_putR (dX12_init 188) lk_X12_138 rfl (by decide) rfl (Or.inr ⟨rfl, rfl, rfl⟩) ?_
  have z85 := zro_r (o := 0) (k := 60) (x := some 37) z84 (by decide)
  refine Z_aload_n (dX12_init 189) rfl ?_
  refine Z_bipush (dX12_init 190) ⟨by decide, by decide⟩ ?_
  refine O_newa (t := 0) (N := 60) (bc1 := 16) (bs1 := 996) (dX12_init 191) (by decide) rfl acl_int rfl z85 (by decide) rfl rfl rfl (by decide) ?_
  have z86 := zro_s z85
  refine O_putR (dX12_init 192) lk_X12_141 rfl (by decide) rfl (Or.inr ⟨rfl, rfl, rfl⟩) ?_
  have z87 := zro_r (o := 0) (k := 61) (x := some 38) z86 (by decide)
  refine Z_aload_n (dX12_init 193) rfl ?_
  refine Z_bipush (dX12_init 194) ⟨by decide, by decide⟩ ?_
  refine O_newa (t := 0) (N := 60) (bc1 := 15) (bs1 := 936) (dX12_init 195) (by decide) rfl acl_int rfl z87 (by decide) rfl rfl rfl (by decide) ?_
  have z88 := zro_s z87
  refine O_putR (dX12_init 196) lk_X12_144 rfl (by decide) rfl (Or.inr ⟨rfl, rfl, rfl⟩) ?_
  have z89 := zro_r (o := 0) (k := 62) (x := some 39) z88 (by decide)
  refine Z_aload_n (dX12_init 197) rfl ?_
  refine Z_bipush (dX12_init 198) ⟨by decide, by decide⟩ ?_
  refine O_newa (t := 0) (N := 60) (bc1 := 14) (bs1 := 876) (dX12_init 199) (by decide) rfl acl_int rfl z89 (by decide) rfl rfl rfl (by decide) ?_
  have z90 := zro_s z89
  refine O_putR (dX12_init 200) lk_X12_147 rfl (by decide) rfl (Or.inr ⟨rfl, rfl, rfl⟩) ?_
  have z91 := zro_r (o := 0) (k := 63) (x := some 40) z90 (by decide)
  refine Z_aload_n (dX12_init 201) rfl ?_
  refine Z_bipush (dX12_init 202) ⟨by decide, by decide⟩ ?_
  refine O_newa (t := 0) (N := 60) (bc1 := 13) (bs1 := 816) (dX12_init 203) (by decide) rfl acl_int rfl z91 (by decide) rfl rfl rfl (by decide) ?_
  have z92 := zro_s z91
  refine O_putR (dX12_init 204) lk_X12_150 rfl (by decide) rfl (Or.inr ⟨rfl, rfl, rfl⟩) ?_
  have z93 := zro_r (o := 0) (k := 64) (x := some 41) z92 (by decide)
  refine Z_aload_n (dX12_init 205) rfl ?_
  refine Z_sipush (dX12_init 206) ⟨by decide, by decide⟩ ?_
  refine O_newa (t := 0) (N := 720) (bc1 := 12) (bs1 := 96) (dX12_init 207) (by decide) rfl acl_int rfl z93 (by decide) rfl rfl rfl (by decide) ?_
  have z94 := zro_s z93
  refine O_putR (dX12_init 208) lk_X12_153 rfl (by decide) rfl (Or.inr ⟨rfl, rfl, rfl⟩) ?_
  have z95 := zro_r (o := 0) (k := 65) (x := some 42) z94 (by decide)
  refine Z_aload_n (dX12_init 209) rfl ?_
  refine Z_bipush (dX12_init 210) ⟨by decide, by decide⟩ ?_
  refine O_newa (t := 1) (N := 8) (bc1 := 11) (bs1 := 88) (dX12_init 211) (by decide) rfl acl_long rfl z95 (by decide) rfl rfl rfl (by decide) ?_
  have z96 := zro_s z95
  refine O_putR (dX12_init 212) lk_X12_156 rfl (by decide) rfl (Or.inr ⟨rfl, rfl, rfl⟩) ?_
  have z97 := zro_r (o := 0) (k := 66) (x := some 43) z96 (by decide)
  refine Z_aload_n (dX12_init 213) rfl ?_
  refine Z_bipush (dX12_init 214) ⟨by decide, by decide⟩ ?_
  refine O_newa (t := 1) (N := 8) (bc1 := 10) (bs1 := 80) (dX12_init 215) (by decide) rfl acl_long rfl z97 (by decide) rfl rfl rfl (by decide) ?_
  have z98 := zro_s z97
  refine O_putR (dX12_init 216) lk_X12_159 rfl (by decide) rfl (Or.inr ⟨rfl, rfl, rfl⟩) ?_
  have z99 := zro_r (o := 0) (k := 67) (x := some 44) z98 (by decide)
  refine Z_aload_n (dX12_init 217) rfl ?_
  refine Z_bipush (dX12_init 218) ⟨by decide, by decide⟩ ?_
  refine O_newa (t := 0) (N := 8) (bc1 := 9) (bs1 := 72) (dX12_init 219) (by decide) rfl acl_int rfl z99 (by decide) rfl rfl rfl (by decide) ?_
  have z100 := zro_s z99
  refine O_putR (dX12_init 220) lk_X12_162 rfl (by decide) rfl (Or.inr ⟨rfl, rfl, rfl⟩) ?_
  have z101 := zro_r (o := 0) (k := 72) (x := some 45) z100 (by decide)
  refine Z_aload_n (dX12_init 221) rfl ?_
  refine Z_bipush (dX12_init 222) ⟨by decide, by decide⟩ ?_
  refine O_newa (t := 3) (N := 8) (bc1 := 8) (bs1 := 64) (dX12_init 223) (by decide) rfl acl_boolean rfl z101 (by decide) rfl rfl rfl (by decide) ?_
  have z102 := zro_s z101
  refine O_putR (dX12_init 224) lk_X12_165 rfl (by decide) rfl (Or.inr ⟨rfl, rfl, rfl⟩) ?_
  have z103 := zro_r (o := 0) (k := 73) (x := some 46) z102 (by decide)
  refine Z_aload_n (dX12_init 225) rfl ?_
  refine Z_bipush (dX12_init 226) ⟨by decide, by decide⟩ ?_
  refine O_newa (t := 0) (N := 8) (bc1 := 7) (bs1 := 56) (dX12_init 227) (by decide) rfl acl_int rfl z103 (by decide) rfl rfl rfl (by decide) ?_
  have z104 := zro_s z103
  refine Z_dup (dX12_init 228) rfl ?_
  refine Z_iconst (dX12_init 229) ⟨by decide, by decide⟩ ?_
  refine Z_iconst (dX12_init 230) ⟨by decide, by decide⟩ ?_
  refine O_iast (dX12_init 231) rfl (by decide) (by decide) ?_
  have z105 := zro_i (o := 47) (k := 0) (x := (-1)) z104 (by decide)
  refine Z_dup (dX12_init 232) rfl ?_
  refine Z_iconst (dX12_init 233) ⟨by decide, by decide⟩ ?_
  refine Z_iconst (dX12_init 234) ⟨by decide, by decide⟩ ?_
  refine O_iast (dX12_init 235) rfl (by decide) (by decide) ?_
  have z106 := zro_i (o := 47) (k := 1) (x := (-1)) z105 (by decide)
  refine Z_dup (dX12_init 236) rfl ?_
  refine Z_iconst (dX12_init 237) ⟨by decide, by decide⟩ ?_
  refine Z_iconst (dX12_init 238) ⟨by decide, by decide⟩ ?_
  refine O_iast (dX12_init 239) rfl (by decide) (by decide) ?_
  have z107 := zro_i (o := 47) (k := 2) (x := (-1)) z106 (by decide)
  refine Z_dup (dX12_init 240) rfl ?_
  refine Z_iconst (dX12_init 241) ⟨by decide, by decide⟩ ?_
  refine Z_iconst (dX12_init 242) ⟨by decide, by decide⟩ ?_
  refine O_iast (dX12_init 243) rfl (by decide) (by decide) ?_
  have z108 := zro_i (o := 47) (k := 3) (x := (-1)) z107 (by decide)
  refine Z_dup (dX12_init 244) rfl ?_
  refine Z_iconst (dX12_init 245) ⟨by decide, by decide⟩ ?_
  refine Z_iconst (dX12_init 246) ⟨by decide, by decide⟩ ?_
  refine O_iast (dX12_init 247) rfl (by decide) (by decide) ?_
  have z109 := zro_i (o := 47) (k := 4) (x := (-1)) z108 (by decide)
  refine Z_dup (dX12_init 248) rfl ?_
  refine Z_iconst (dX12_init 249) ⟨by decide, by decide⟩ ?_
  refine Z_iconst (dX12_init 250) ⟨by decide, by decide⟩ ?_
  refine O_iast (dX12_init 251) rfl (by decide) (by decide) ?_
  have z110 := zro_i (o := 47) (k := 5) (x := (-1)) z109 (by decide)
  refine Z_dup (dX12_init 252) rfl ?_
  refine Z_bipush (dX12_init 253) ⟨by decide, by decide⟩ ?_
  refine Z_iconst (dX12_init 254) ⟨by decide, by decide⟩ ?_
  refine O_iast (dX12_init 255) rfl (by decide) (by decide) ?_
  have z111 := zro_i (o := 47) (k := 6) (x := (-1)) z110 (by decide)
  refine Z_dup (dX12_init 256) rfl ?_
  refine Z_bipush (dX12_init 257) ⟨by decide, by decide⟩ ?_
  refine Z_iconst (dX12_init 258) ⟨by decide, by decide⟩ ?_
  refine O_iast (dX12_init 259) rfl (by decide) (by decide) ?_
  have z112 := zro_i (o := 47) (k := 7) (x := (-1)) z111 (by decide)
  refine O_putR (dX12_init 260) lk_X12_168 rfl (by decide) rfl (Or.inr ⟨rfl, rfl, rfl⟩) ?_
  have z113 := zro_r (o := 0) (k := 75) (x := some 47) z112 (by decide)
  refine Z_aload_n (dX12_init 261) rfl ?_
  refine Z_bipush (dX12_init 262) ⟨by decide, by decide⟩ ?_
  refine O_newa (t := 0) (N := 8) (bc1 := 6) (bs1 := 48) (dX12_init 263) (by decide) rfl acl_int rfl z113 (by decide) rfl rfl rfl (by decide) ?_
  have z114 := zro_s z113
  refine O_putR (dX12_init 264) lk_X12_171 rfl (by decide) rfl (Or.inr ⟨rfl, rfl, rfl⟩) ?_
  have z115 := zro_r (o := 0) (k := 76) (x := some 48) z114 (by decide)
  refine Z_aload_n (dX12_init 265) rfl ?_
  refine Z_bipush (dX12_init 266) ⟨by decide, by decide⟩ ?_
  refine O_newa (t := 0) (N := 8) (bc1 := 5) (bs1 := 40) (dX12_init 267) (by decide) rfl acl_int rfl z115 (by decide) rfl rfl rfl (by decide) ?_
  have z116 := zro_s z115
  refine O_putR (dX12_init 268) lk_X12_174 rfl (by decide) rfl (Or.inr ⟨rfl, rfl, rfl⟩) ?_
  have z117 := zro_r (o := 0) (k := 77) (x := some 49) z116 (by decide)
  refine Z_aload_n (dX12_init 269) rfl ?_
  refine Z_bipush (dX12_init 270) ⟨by decide, by decide⟩ ?_
  refine O_newa (t := 0) (N := 8) (bc1 := 4) (bs1 := 32) (dX12_init 271) (by decide) rfl acl_int rfl z117 (by decide) rfl rfl rfl (by decide) ?_
  have z118 := zro_s z117
  refine O_putR (dX12_init 272) lk_X12_177 rfl (by decide) rfl (Or.inr ⟨rfl, rfl, rfl⟩) ?_
  have z119 := zro_r (o := 0) (k := 78) (x := some 50) z118 (by decide)
  refine Z_aload_n (dX12_init 273) rfl ?_
  refine Z_iconst (dX12_init 274) ⟨by decide, by decide⟩ ?_
  refine O_putI (dX12_init 275) lk_X12_180 rfl (by decide) rfl (Or.inl rfl) ?_
  have z120 := zro_i (o := 0) (k := 79) (x := (-1)) z119 (by decide)
  refine Z_aload_n (dX12_init 276) rfl ?_
  refine Z_iconst (dX12_init 277) ⟨by decide, by decide⟩ ?_
  refine O_putI (dX12_init 278) lk_X12_183 rfl (by decide) rfl (Or.inl rfl) ?_
  have z121 := zro_i (o := 0) (k := 80) (x := (-1)) z120 (by decide)
  refine Z_aload_n (dX12_init 279) rfl ?_
  refine Z_bipush (dX12_init 280) ⟨by decide, by decide⟩ ?_
  refine O_newa (t := 0) (N := 8) (bc1 := 3) (bs1 := 24) (dX12_init 281) (by decide) rfl acl_int rfl z121 (by decide) rfl rfl rfl (by decide) ?_
  have z122 := zro_s z121
  refine O_putR (dX12_init 282) lk_X12_186 rfl (by decide) rfl (Or.inr ⟨rfl, rfl, rfl⟩) ?_
  have z123 := zro_r (o := 0) (k := 82) (x := some 51) z122 (by decide)
  refine Z_aload_n (dX12_init 283) rfl ?_
  refine Z_bipush (dX12_init 284) ⟨by decide, by decide⟩ ?_
  refine O_newa (t := 0) (N := 8) (bc1 := 2) (bs1 := 16) (dX12_init 285) (by decide) rfl acl_int rfl z123 (by decide) rfl rfl rfl (by decide) ?_
  have z124 := zro_s z123
  refine O_putR (dX12_init 286) lk_X12_189 rfl (by decide) rfl (Or.inr ⟨rfl, rfl, rfl⟩) ?_
  have z125 := zro_r (o := 0) (k := 83) (x := some 52) z124 (by decide)
  refine Z_aload_n (dX12_init 287) rfl ?_
  refine Z_bipush (dX12_init 288) ⟨by decide, by decide⟩ ?_
  refine O_newa (t := 0) (N := 8) (bc1 := 1) (bs1 := 8) (dX12_init 289) (by decide) rfl acl_int rfl z125 (by decide) rfl rfl rfl (by decide) ?_
  have z126 := zro_s z125
  refine O_putR (dX12_init 290) lk_X12_192 rfl (by decide) rfl (Or.inr ⟨rfl, rfl, rfl⟩) ?_
  have z127 := zro_r (o := 0) (k := 84) (x := some 53) z126 (by decide)
  refine Z_aload_n (dX12_init 291) rfl ?_
  refine Z_bipush (dX12_init 292) ⟨by decide, by decide⟩ ?_
  refine O_newa (t := 0) (N := 8) (bc1 := 0) (bs1 := 0) (dX12_init 293) (by decide) rfl acl_int rfl z127 (by decide) rfl rfl rfl (by decide) ?_
  have z128 := zro_s z127
  refine O_putR (dX12_init 294) lk_X12_195 rfl (by decide) rfl (Or.inr ⟨rfl, rfl, rfl⟩) ?_
  have z129 := zro_r (o := 0) (k := 85) (x := some 54) z128 (by decide)
  exact Z_return (dX12_init 295) rfl k
set_option maxRecDepth 100000 in
set_option maxHeartbeats 4000000 in
theorem iX12_z {iv : Nat → Nat → Int} {rv : Nat → Nat → Option Nat} (hz : zro 1 iv rv) : zro 55 (iu (iu (iu (iu (iu (iu (iu (iu (iu (iu (iu (iu (iu (iu (iu (iu (iu (iu (iu (iu (iu iv 2 0 (-1)) 2 1 (-1)) 2 2 (-1)) 2 3 (-1)) 0 5 4) 0 6 8) 0 7 200) 10 0 (-1)) 10 1 (-1)) 0 49 (-1)) 0 50 (-1)) 47 0 (-1)) 47 1 (-1)) 47 2 (-1)) 47 3 (-1)) 47 4 (-1)) 47 5 (-1)) 47 6 (-1)) 47 7 (-1)) 0 79 (-1)) 0 80 (-1)) (ru (ru (ru (ru (ru (ru (ru (ru (ru (ru (ru (ru (ru (ru (ru (ru (ru (ru (ru (ru (ru (ru (ru (ru (ru (ru (ru (ru (ru (ru (ru (ru (ru (ru (ru (ru (ru (ru (ru (ru (ru (ru (ru (ru (ru (ru (ru (ru (ru (ru (ru (ru (ru (ru rv 0 1 (some 1)) 0 2 (some 2)) 0 3 (some 3)) 0 8 (some 4)) 0 9 (some 5)) 0 10 (some 6)) 0 11 (some 7)) 0 12 (some 8)) 0 13 (some 9)) 0 14 (some 10)) 0 15 (some 11)) 0 16 (some 12)) 0 17 (some 13)) 0 18 (some 14)) 0 19 (some 15)) 0 21 (some 16)) 0 22 (some 17)) 0 23 (some 18)) 0 24 (some 19)) 0 26 (some 20)) 0 27 (some 21)) 0 28 (some 22)) 0 29 (some 23)) 0 34 (some 24)) 0 35 (some 25)) 0 36 (some 26)) 0 39 (some 27)) 0 41 (some 28)) 0 42 (some 29)) 0 53 (some 30)) 0 54 (some 31)) 0 55 (some 32)) 0 56 (some 33)) 0 57 (some 34)) 0 58 (some 35)) 0 59 (some 36)) 0 60 (some 37)) 0 61 (some 38)) 0 62 (some 39)) 0 63 (some 40)) 0 64 (some 41)) 0 65 (some 42)) 0 66 (some 43)) 0 67 (some 44)) 0 72 (some 45)) 0 73 (some 46)) 0 75 (some 47)) 0 76 (some 48)) 0 77 (some 49)) 0 78 (some 50)) 0 82 (some 51)) 0 83 (some 52)) 0 84 (some 53)) 0 85 (some 54)) := by
  have z1 := zro_s hz
  have z2 := zro_r (o := 0) (k := 1) (x := some 1) z1 (by decide)
  have z3 := zro_s z2
  have z4 := zro_i (o := 2) (k := 0) (x := (-1)) z3 (by decide)
  have z5 := zro_i (o := 2) (k := 1) (x := (-1)) z4 (by decide)
  have z6 := zro_i (o := 2) (k := 2) (x := (-1)) z5 (by decide)
  have z7 := zro_i (o := 2) (k := 3) (x := (-1)) z6 (by decide)
  have z8 := zro_r (o := 0) (k := 2) (x := some 2) z7 (by decide)
  have z9 := zro_s z8
  have z10 := zro_r (o := 0) (k := 3) (x := some 3) z9 (by decide)
  have z11 := zro_i (o := 0) (k := 5) (x := 4) z10 (by decide)
  have z12 := zro_i (o := 0) (k := 6) (x := 8) z11 (by decide)
  have z13 := zro_i (o := 0) (k := 7) (x := 200) z12 (by decide)
  have z14 := zro_s z13
  have z15 := zro_r (o := 0) (k := 8) (x := some 4) z14 (by decide)
  have z16 := zro_s z15
  have z17 := zro_r (o := 0) (k := 9) (x := some 5) z16 (by decide)
  have z18 := zro_s z17
  have z19 := zro_r (o := 0) (k := 10) (x := some 6) z18 (by decide)
  have z20 := zro_s z19
  have z21 := zro_r (o := 0) (k := 11) (x := some 7) z20 (by decide)
  have z22 := zro_s z21
  have z23 := zro_r (o := 0) (k := 12) (x := some 8) z22 (by decide)
  have z24 := zro_s z23
  have z25 := zro_r (o := 0) (k := 13) (x := some 9) z24 (by decide)
  have z26 := zro_s z25
  have z27 := zro_i (o := 10) (k := 0) (x := (-1)) z26 (by decide)
  have z28 := zro_i (o := 10) (k := 1) (x := (-1)) z27 (by decide)
  have z29 := zro_r (o := 0) (k := 14) (x := some 10) z28 (by decide)
  have z30 := zro_s z29
  have z31 := zro_r (o := 0) (k := 15) (x := some 11) z30 (by decide)
  have z32 := zro_s z31
  have z33 := zro_r (o := 0) (k := 16) (x := some 12) z32 (by decide)
  have z34 := zro_s z33
  have z35 := zro_r (o := 0) (k := 17) (x := some 13) z34 (by decide)
  have z36 := zro_s z35
  have z37 := zro_r (o := 0) (k := 18) (x := some 14) z36 (by decide)
  have z38 := zro_s z37
  have z39 := zro_r (o := 0) (k := 19) (x := some 15) z38 (by decide)
  have z40 := zro_s z39
  have z41 := zro_r (o := 0) (k := 21) (x := some 16) z40 (by decide)
  have z42 := zro_s z41
  have z43 := zro_r (o := 0) (k := 22) (x := some 17) z42 (by decide)
  have z44 := zro_s z43
  have z45 := zro_r (o := 0) (k := 23) (x := some 18) z44 (by decide)
  have z46 := zro_s z45
  have z47 := zro_r (o := 0) (k := 24) (x := some 19) z46 (by decide)
  have z48 := zro_s z47
  have z49 := zro_r (o := 0) (k := 26) (x := some 20) z48 (by decide)
  have z50 := zro_s z49
  have z51 := zro_r (o := 0) (k := 27) (x := some 21) z50 (by decide)
  have z52 := zro_s z51
  have z53 := zro_r (o := 0) (k := 28) (x := some 22) z52 (by decide)
  have z54 := zro_s z53
  have z55 := zro_r (o := 0) (k := 29) (x := some 23) z54 (by decide)
  have z56 := zro_s z55
  have z57 := zro_r (o := 0) (k := 34) (x := some 24) z56 (by decide)
  have z58 := zro_s z57
  have z59 := zro_r (o := 0) (k := 35) (x := some 25) z58 (by decide)
  have z60 := zro_s z59
  have z61 := zro_r (o := 0) (k := 36) (x := some 26) z60 (by decide)
  have z62 := zro_s z61
  have z63 := zro_r (o := 0) (k := 39) (x := some 27) z62 (by decide)
  have z64 := zro_s z63
  have z65 := zro_r (o := 0) (k := 41) (x := some 28) z64 (by decide)
  have z66 := zro_s z65
  have z67 := zro_r (o := 0) (k := 42) (x := some 29) z66 (by decide)
  have z68 := zro_i (o := 0) (k := 49) (x := (-1)) z67 (by decide)
  have z69 := zro_i (o := 0) (k := 50) (x := (-1)) z68 (by decide)
  have z70 := zro_s z69
  have z71 := zro_r (o := 0) (k := 53) (x := some 30) z70 (by decide)
  have z72 := zro_s z71
  have z73 := zro_r (o := 0) (k := 54) (x := some 31) z72 (by decide)
  have z74 := zro_s z73
  have z75 := zro_r (o := 0) (k := 55) (x := some 32) z74 (by decide)
  have z76 := zro_s z75
  have z77 := zro_r (o := 0) (k := 56) (x := some 33) z76 (by decide)
  have z78 := zro_s z77
  have z79 := zro_r (o := 0) (k := 57) (x := some 34) z78 (by decide)
  have z80 := zro_s z79
  have z81 := zro_r (o := 0) (k := 58) (x := some 35) z80 (by decide)
  have z82 := zro_s z81
  have z83 := zro_r (o := 0) (k := 59) (x := some 36) z82 (by decide)
  have z84 := zro_s z83
  have z85 := zro_r (o := 0) (k := 60) (x := some 37) z84 (by decide)
  have z86 := zro_s z85
  have z87 := zro_r (o := 0) (k := 61) (x := some 38) z86 (by decide)
  have z88 := zro_s z87
  have z89 := zro_r (o := 0) (k := 62) (x := some 39) z88 (by decide)
  have z90 := zro_s z89
  have z91 := zro_r (o := 0) (k := 63) (x := some 40) z90 (by decide)
  have z92 := zro_s z91
  have z93 := zro_r (o := 0) (k := 64) (x := some 41) z92 (by decide)
  have z94 := zro_s z93
  have z95 := zro_r (o := 0) (k := 65) (x := some 42) z94 (by decide)
  have z96 := zro_s z95
  have z97 := zro_r (o := 0) (k := 66) (x := some 43) z96 (by decide)
  have z98 := zro_s z97
  have z99 := zro_r (o := 0) (k := 67) (x := some 44) z98 (by decide)
  have z100 := zro_s z99
  have z101 := zro_r (o := 0) (k := 72) (x := some 45) z100 (by decide)
  have z102 := zro_s z101
  have z103 := zro_r (o := 0) (k := 73) (x := some 46) z102 (by decide)
  have z104 := zro_s z103
  have z105 := zro_i (o := 47) (k := 0) (x := (-1)) z104 (by decide)
  have z106 := zro_i (o := 47) (k := 1) (x := (-1)) z105 (by decide)
  have z107 := zro_i (o := 47) (k := 2) (x := (-1)) z106 (by decide)
  have z108 := zro_i (o := 47) (k := 3) (x := (-1)) z107 (by decide)
  have z109 := zro_i (o := 47) (k := 4) (x := (-1)) z108 (by decide)
  have z110 := zro_i (o := 47) (k := 5) (x := (-1)) z109 (by decide)
  have z111 := zro_i (o := 47) (k := 6) (x := (-1)) z110 (by decide)
  have z112 := zro_i (o := 47) (k := 7) (x := (-1)) z111 (by decide)
  have z113 := zro_r (o := 0) (k := 75) (x := some 47) z112 (by decide)
  have z114 := zro_s z113
  have z115 := zro_r (o := 0) (k := 76) (x := some 48) z114 (by decide)
  have z116 := zro_s z115
  have z117 := zro_r (o := 0) (k := 77) (x := some 49) z116 (by decide)
  have z118 := zro_s z117
  have z119 := zro_r (o := 0) (k := 78) (x := some 50) z118 (by decide)
  have z120 := zro_i (o := 0) (k := 79) (x := (-1)) z119 (by decide)
  have z121 := zro_i (o := 0) (k := 80) (x := (-1)) z120 (by decide)
  have z122 := zro_s z121
  have z123 := zro_r (o := 0) (k := 82) (x := some 51) z122 (by decide)
  have z124 := zro_s z123
  have z125 := zro_r (o := 0) (k := 83) (x := some 52) z124 (by decide)
  have z126 := zro_s z125
  have z127 := zro_r (o := 0) (k := 84) (x := some 53) z126 (by decide)
  have z128 := zro_s z127
  have z129 := zro_r (o := 0) (k := 85) (x := some 54) z128 (by decide)
  exact z129

