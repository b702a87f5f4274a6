/-! ===== a sheet, with its 60 steps ===== -/
def shL (rv : Nat → Nat → Option Nat) (o q : Nat) : Nat → Nat → Option Nat := fun i j => if i = o + 1 ∧ j < q then some (o + 2 + j) else ru rv o 0 (some (o + 1)) i j
def shR (rv : Nat → Nat → Option Nat) (o : Nat) : Nat → Nat → Option Nat := ru (ru (shL rv o 60) o 1 (some (o + 62))) o 2 (some (o + 63))
theorem shL_s {rv : Nat → Nat → Option Nat} {o q : Nat} : ru (shL rv o q) (o + 1) q (some (o + 2 + q)) = shL rv o (q + 1) := by
  funext i j
  simp only [shL, ru_ap]
  by_cases h1 : i = o + 1
  · by_cases h2 : j = q
    · rw [if_pos ⟨h1, h2⟩, if_pos (by omega), h2]
    · rw [if_neg (by omega)]
      by_cases h3 : j < q
      · rw [if_pos (by omega), if_pos (by omega)]
      · rw [if_neg (by omega), if_neg (by omega), if_neg (by omega)]
  · rw [if_neg (show ¬ (i = o + 1 ∧ j = q) by omega), if_neg (show ¬ (i = o + 1 ∧ j < q) by omega), if_neg (show ¬ (i = o + 1 ∧ j < q + 1) by omega)]
theorem shL_z {iv : Nat → Nat → Int} {rv : Nat → Nat → Option Nat} {o q : Nat} (hz : zro (o + 1) iv rv) : zro (o + 2 + q) iv (shL rv o q) := fun i j h => by
  refine ⟨(hz i j (by omega)).1, ?_⟩
  simp only [shL, ru_ap]
  rw [if_neg (by omega), if_neg (by omega)]
  exact (hz i j (by omega)).2
set_option maxRecDepth 100000 in
theorem iSheet_l {G : ZG} {d : Nat} {iv : Nat → Nat → Int} {rv : Nat → Nat → Option Nat} {K : Option AV → AH → Prop} {o : Nat} (ho : isSh o) (hz : zro (o + 1) iv rv) (k : Z G mX6_init (d + 1) 2 16 40 [vr (some o), vi 60] [] (ow ShC (o + 62) iv (shL rv o 60)) K) : ∀ r q : Nat, q + r = 60 → Z G mX6_init (d + 1) (r + 2) (r * 13 + 16) 15 [vr (some o), vi (q : Int)] [] (ow ShC (o + 2 + q) iv (shL rv o q)) K := by
  intro r
  induction r with
  | zero =>
    intro q e
    obtain rfl : q = 60 := by omega
    refine Z_iload_n (dX6_init 8) rfl ?_
    refine Z_bipush (dX6_init 9) ⟨by decide, by decide⟩ ?_
    refine Z_icmp_ge (dX6_init 10) rfl (fun _ => ?_) (fun q => absurd q (by decide))
    exact k
  | succ r ih =>
    intro q e
    refine Z_iload_n (dX6_init 8) rfl ?_
    refine Z_bipush (dX6_init 9) ⟨by decide, by decide⟩ ?_
    refine Z_icmp_ge (dX6_init 10) rfl (fun q => by omega) (fun _ => ?_)
    refine Z_aload_n (dX6_init 11) rfl ?_
    refine O_getR (r := some (o + 1)) (dX6_init 12) lk_X6_11 (Sh_sh ho) (by omega) rfl (by unfold shL; rw [if_neg (by omega), ru_ap, if_pos ⟨rfl, rfl⟩]) ?_
    refine Z_iload_n (dX6_init 13) rfl ?_
    have hs := St_sh (Sh_stI ho (show q < 60 by omega))
    refine O_new (ci := 9) (bc1 := r + 2) (bs1 := r * 13 + 16) (dX6_init 14) (by decide) lk_X6_9 ins_X9 ini_X9 hs (shL_z hz) (by omega) (by show r * 13 + 16 + 13 = (r + 1) * 13 + 16; omega) (ShC_lt hs) ?_
    refine Z_dup (dX6_init 15) rfl ?_
    refine Z_callIN (As := []) (S := [vr (some (o + 2 + q)), vi (q : Int), vr (some (o + 1))]) (bc2 := 0) (bs2 := 0) (bc1 := r + 2) (bs1 := r * 13 + 16) (dX6_init 16) lk_X6_17 rfl (Nat.le_of_ble_eq_true rfl) (Nat.le_of_ble_eq_true rfl) (by omega) (by omega) (iStep hs (zro_s (shL_z hz)) ?_)
    show Z G mX6_init _ _ _ 33 [vr (some o), vi (q : Int)] [vr (some (o + 2 + q)), vi (q : Int), vr (some (o + 1))] (ow ShC (o + 2 + q + 1) _ _) K
    refine O_aast (dX6_init 17) (Sh_a1 ho) (by omega) (by decide) hs (by omega) ⟨by omega, by omega⟩ ?_
    refine Z_iinc (dX6_init 18) rfl (Nat.le_of_ble_eq_true rfl) ⟨by omega, by omega⟩ rfl ?_
    refine Z_goto (dX6_init 19) rfl ?_
    have a := ih (q + 1) (by omega)
    rw [← shL_s] at a
    exact a
set_option maxRecDepth 100000 in
theorem iSheet {G : ZG} {d : Nat} {iv : Nat → Nat → Int} {rv : Nat → Nat → Option Nat} {K : Option AV → AH → Prop} {o : Nat} (ho : isSh o) (hz : zro (o + 1) iv rv) (k : K none (ow ShC (o + 64) iv (shR rv o))) : Z G mX6_init (d + 1) 63 856 0 [vr (some o), vu] [] (ow ShC (o + 1) iv rv) K := by
  refine Z_aload_n (dX6_init 0) rfl ?_
  refine Z_objI (dX6_init 1) lk_X6_3 obj_in obj_code (by decide) ?_
  refine Z_aload_n (dX6_init 2) rfl ?_
  refine Z_bipush (dX6_init 3) ⟨by decide, by decide⟩ ?_
  refine O_newq (t := 6) (N := 60) (bc1 := 62) (bs1 := 796) (dX6_init 4) (by decide) lk_X6_9 (Sh_a1 ho) hz (by decide) rfl rfl rfl (ShC_lt (Sh_a1 ho)) ?_
  refine O_putR (dX6_init 5) lk_X6_11 (Sh_sh ho) (by omega) rfl (Or.inr ⟨rfl, rfl, rfl⟩) ?_
  refine Z_iconst (dX6_init 6) ⟨by decide, by decide⟩ ?_
  refine Z_istore_n (dX6_init 7) (Nat.le_of_ble_eq_true rfl) rfl ?_
  have e0 : shL rv o 0 = ru rv o 0 (some (o + 1)) := by
    funext i j; unfold shL; rw [if_neg (by omega)]
  have a := @iSheet_l G d iv rv K o ho hz ?_ 60 0 rfl
  · rw [e0] at a; exact a
  have z0 := shL_z (q := 60) hz
  refine Z_aload_n (dX6_init 20) rfl ?_
  refine Z_bipush (dX6_init 21) ⟨by decide, by decide⟩ ?_
  refine O_newa (t := 0) (N := 8) (bc1 := 1) (bs1 := 8) (dX6_init 22) (by decide) rfl acl_int (Sh_a62 ho) z0 (by decide) rfl rfl rfl (ShC_lt (Sh_a62 ho)) ?_
  have z1 := zro_s z0
  refine O_putR (dX6_init 23) lk_X6_18 (Sh_sh ho) (by omega) rfl (Or.inr ⟨rfl, rfl, rfl⟩) ?_
  have z2 := zro_r (o := o) (k := 1) (x := some (o + 62)) z1 (by omega)
  refine Z_aload_n (dX6_init 24) rfl ?_
  refine Z_bipush (dX6_init 25) ⟨by decide, by decide⟩ ?_
  refine O_newa (t := 0) (N := 8) (bc1 := 0) (bs1 := 0) (dX6_init 26) (by decide) rfl acl_int (Sh_a63 ho) z2 (by decide) rfl rfl rfl (ShC_lt (Sh_a63 ho)) ?_
  refine O_putR (dX6_init 27) lk_X6_22 (Sh_sh ho) (by omega) rfl (Or.inr ⟨rfl, rfl, rfl⟩) ?_
  exact Z_return (dX6_init 28) rfl k
theorem iSheet_z {iv : Nat → Nat → Int} {rv : Nat → Nat → Option Nat} {o : Nat} (hz : zro (o + 1) iv rv) : zro (o + 64) iv (shR rv o) := by
  have z0 := shL_z (q := 60) hz
  have z1 := zro_r (o := o) (k := 1) (x := some (o + 62)) z0 (by omega)
  have z2 := zro_r (o := o) (k := 2) (x := some (o + 63)) z1 (by omega)
  exact zro_s (zro_s z2)
set_option maxRecDepth 100000 in
set_option maxHeartbeats 4000000 in
theorem iX5 {G : ZG} {d : Nat} {iv : Nat → Nat → Int} {rv : Nat → Nat → Option Nat} {K : Option AV → AH → Prop} (hz : zro 41 iv rv) (k : K none (ow ShC 54 (iu (iu (ifill (iu (iu (iu (iu iv 42 5 (-1)) 42 7 (-1)) 46 5 (-1)) 46 7 (-1)) 50 0 8 (-1)) 40 9 (-1)) 40 10 (-1)) (ru (ru (ru (ru (ru (ru (ru (ru (ru (ru (ru (ru (ru (ru (ru (ru (ru rv 40 0 (some 10)) 40 1 (some 15)) 40 2 (some 41)) 42 0 (some 14)) 42 1 (some 43)) 42 2 (some 44)) 42 3 (some 45)) 41 0 (some 42)) 46 0 (some 14)) 46 1 (some 47)) 46 2 (some 48)) 46 3 (some 49)) 41 1 (some 46)) 40 3 (some 50)) 40 4 (some 51)) 40 5 (some 52)) 40 6 (some 53)))) : Z G mX5_init (d + 1) 13 2452 0 [vr (some 40), vr (some 10), vr (some 15), vr (some 14), vu] [] (ow ShC 41 iv rv) K := by
  refine Z_aload_n (dX5_init 0) rfl ?_
  refine Z_objI (dX5_init 1) lk_X5_3 obj_in obj_code (by decide) ?_
  refine Z_aload_n (dX5_init 2) rfl ?_
  refine Z_aload_n (dX5_init 3) rfl ?_
  refine O_putR (dX5_init 4) lk_X5_9 rfl (by decide) rfl (Or.inr ⟨rfl, rfl, rfl⟩) ?_
  have z1 := zro_r (o := 40) (k := 0) (x := some 10) hz (by decide)
  refine Z_aload_n (dX5_init 5) rfl ?_
  refine Z_aload_n (dX5_init 6) rfl ?_
  refine O_putR (dX5_init 7) lk_X5_15 rfl (by decide) rfl (Or.inr ⟨rfl, rfl, rfl⟩) ?_
  have z2 := zro_r (o := 40) (k := 1) (x := some 15) z1 (by decide)
  refine Z_aload_n (dX5_init 8) rfl ?_
  refine Z_iconst (dX5_init 9) ⟨by decide, by decide⟩ ?_
  refine O_newq (t := 5) (N := 2) (bc1 := 12) (bs1 := 2450) (dX5_init 10) (by decide) lk_X5_19 rfl z2 (by decide) rfl rfl rfl (by decide) ?_
  have z3 := zro_s z2
  refine O_putR (dX5_init 11) lk_X5_21 rfl (by decide) rfl (Or.inr ⟨rfl, rfl, rfl⟩) ?_
  have z4 := zro_r (o := 40) (k := 2) (x := some 41) z3 (by decide)
  refine Z_iconst (dX5_init 12) ⟨by decide, by decide⟩ ?_
  refine Z_istore (dX5_init 13) (Nat.le_of_ble_eq_true rfl) rfl ?_
  refine Z_iload (dX5_init 14) rfl ?_
  refine Z_iconst (dX5_init 15) ⟨by decide, by decide⟩ ?_
  refine Z_icmp_ge (dX5_init 16) rfl (fun q => absurd q (by decide)) (fun _ => ?_)
  refine Z_aload_n (dX5_init 17) rfl ?_
  refine O_getR (r := some 41) (dX5_init 18) lk_X5_21 rfl (by decide) rfl rfl ?_
  refine Z_iload (dX5_init 19) rfl ?_
  refine O_new (ci := 7) (bc1 := 11) (bs1 := 2441) (dX5_init 20) (by decide) lk_X5_19 ins_X7 ini_X7 rfl z4 rfl rfl (by decide) ?_
  have z5 := zro_s z4
  refine Z_dup (dX5_init 21) rfl ?_
  refine Z_aload_n (dX5_init 22) rfl ?_
  refine Z_callI (As := [vr (some 14)]) (S := [vr (some 42), vi 0, vr (some 41)]) (bc2 := 3) (bs2 := 1200) (bc1 := 8) (bs1 := 1241) (dX5_init 23) lk_X5_24 rfl (by decide) (by decide) rfl rfl (iSide rfl rfl rfl rfl z5 ?_)
  show Z G mX5_init _ _ _ 45 [vr (some 40), vr (some 10), vr (some 15), vr (some 14), vi 0] [vr (some 42), vi 0, vr (some 41)] (ow ShC 46 _ _) K
  have z6 := iSide_z (o := 42) (a := 14) z5
  refine O_aast (dX5_init 24) rfl (by decide) (by decide) rfl (by decide) (by decide) ?_
  have z7 := zro_r (o := 41) (k := 0) (x := some 42) z6 (by decide)
  refine Z_iinc (dX5_init 25) rfl (Nat.le_of_ble_eq_true rfl) ⟨by decide, by decide⟩ rfl ?_
  refine Z_goto (dX5_init 26) rfl ?_
  refine Z_iload (dX5_init 14) rfl ?_
  refine Z_iconst (dX5_init 15) ⟨by decide, by decide⟩ ?_
  refine Z_icmp_ge (dX5_init 16) rfl (fun q => absurd q (by decide)) (fun _ => ?_)
  refine Z_aload_n (dX5_init 17) rfl ?_
  refine O_getR (r := some 41) (dX5_init 18) lk_X5_21 rfl (by decide) rfl rfl ?_
  refine Z_iload (dX5_init 19) rfl ?_
  refine O_new (ci := 7) (bc1 := 7) (bs1 := 1232) (dX5_init 20) (by decide) lk_X5_19 ins_X7 ini_X7 rfl z7 rfl rfl (by decide) ?_
  have z8 := zro_s z7
  refine Z_dup (dX5_init 21) rfl ?_
  refine Z_aload_n (dX5_init 22) rfl ?_
  refine Z_callI (As := [vr (some 14)]) (S := [vr (some 46), vi (0 + 1), vr (some 41)]) (bc2 := 3) (bs2 := 1200) (bc1 := 4) (bs1 := 32) (dX5_init 23) lk_X5_24 rfl (by decide) (by decide) rfl rfl (iSide rfl rfl rfl rfl z8 ?_)
  show Z G mX5_init _ _ _ 45 [vr (some 40), vr (some 10), vr (some 15), vr (some 14), vi (0 + 1)] [vr (some 46), vi (0 + 1), vr (some 41)] (ow ShC 50 _ _) K
  have z9 := iSide_z (o := 46) (a := 14) z8
  refine O_aast (dX5_init 24) rfl (by decide) (by decide) rfl (by decide) (by decide) ?_
  have z10 := zro_r (o := 41) (k := 1) (x := some 46) z9 (by decide)
  refine Z_iinc (dX5_init 25) rfl (Nat.le_of_ble_eq_true rfl) ⟨by decide, by decide⟩ rfl ?_
  refine Z_goto (dX5_init 26) rfl ?_
  refine Z_iload (dX5_init 14) rfl ?_
  refine Z_iconst (dX5_init 15) ⟨by decide, by decide⟩ ?_
  refine Z_icmp_ge (dX5_init 16) rfl (fun _ => ?_) (fun q => absurd q (by decide))
  refine Z_aload_n (dX5_init 27) rfl ?_
  refine Z_bipush (dX5_init 28) ⟨by decide, by decide⟩ ?_
  refine O_newa (t := 0) (N := 8) (bc1 := 3) (bs1 := 24) (dX5_init 29) (by decide) rfl acl_int rfl z10 (by decide) rfl rfl rfl (by decide) ?_
  have z11 := zro_s z10
  refine O_putR (dX5_init 30) lk_X5_27 rfl (by decide) rfl (Or.inl rfl) ?_
  have z12 := zro_r (o := 40) (k := 3) (x := some 50) z11 (by decide)
  refine Z_aload_n (dX5_init 31) rfl ?_
  refine Z_bipush (dX5_init 32) ⟨by decide, by decide⟩ ?_
  refine O_newa (t := 0) (N := 8) (bc1 := 2) (bs1 := 16) (dX5_init 33) (by decide) rfl acl_int rfl z12 (by decide) rfl rfl rfl (by decide) ?_
  have z13 := zro_s z12
  refine O_putR (dX5_init 34) lk_X5_31 rfl (by decide) rfl (Or.inl rfl) ?_
  have z14 := zro_r (o := 40) (k := 4) (x := some 51) z13 (by decide)
  refine Z_aload_n (dX5_init 35) rfl ?_
  refine Z_bipush (dX5_init 36) ⟨by decide, by decide⟩ ?_
  refine O_newa (t := 0) (N := 8) (bc1 := 1) (bs1 := 8) (dX5_init 37) (by decide) rfl acl_int rfl z14 (by decide) rfl rfl rfl (by decide) ?_
  have z15 := zro_s z14
  refine O_putR (dX5_init 38) lk_X5_34 rfl (by decide) rfl (Or.inl rfl) ?_
  have z16 := zro_r (o := 40) (k := 5) (x := some 52) z15 (by decide)
  refine Z_aload_n (dX5_init 39) rfl ?_
  refine Z_bipush (dX5_init 40) ⟨by decide, by decide⟩ ?_
  refine O_newa (t := 0) (N := 8) (bc1 := 0) (bs1 := 0) (dX5_init 41) (by decide) rfl acl_int rfl z16 (by decide) rfl rfl rfl (by decide) ?_
  have z17 := zro_s z16
  refine O_putR (dX5_init 42) lk_X5_37 rfl (by decide) rfl (Or.inl rfl) ?_
  have z18 := zro_r (o := 40) (k := 6) (x := some 53) z17 (by decide)
  refine Z_aload_n (dX5_init 43) rfl ?_
  refine O_getR (r := some 50) (dX5_init 44) lk_X5_27 rfl (by decide) rfl rfl ?_
  refine Z_iconst (dX5_init 45) ⟨by decide, by decide⟩ ?_
  refine Z_callS (As := [vr (some 50), vi (-1)]) (S := []) (bc2 := 0) (bs2 := 0) (bc1 := 0) (bs1 := 0) (dX5_init 46) lk_X5_40 rfl (by decide) (by decide) rfl rfl (O_fill rfl (by decide) (by decide) ?_)
  have z19 := zro_f (o := 50) (a := 0) (b := 8) (x := (-1)) z18 (by decide)
  show Z G mX5_init _ _ _ 92 [vr (some 40), vr (some 10), vr (some 15), vr (some 14), vi ((0 + 1) + 1)] [] _ K
  refine Z_aload_n (dX5_init 47) rfl ?_
  refine Z_iconst (dX5_init 48) ⟨by decide, by decide⟩ ?_
  refine O_putI (dX5_init 49) lk_X5_46 rfl (by decide) rfl (Or.inl rfl) ?_
  have z20 := zro_i (o := 40) (k := 9) (x := (-1)) z19 (by decide)
  refine Z_aload_n (dX5_init 50) rfl ?_
  refine Z_iconst (dX5_init 51) ⟨by decide, by decide⟩ ?_
  refine O_putI (dX5_init 52) lk_X5_50 rfl (by decide) rfl (Or.inl rfl) ?_
  have z21 := zro_i (o := 40) (k := 10) (x := (-1)) z20 (by decide)
  exact Z_return (dX5_init 53) rfl k
set_option maxRecDepth 100000 in
set_option maxHeartbeats 4000000 in
theorem iX5_z {iv : Nat → Nat → Int} {rv : Nat → Nat → Option Nat} (hz : zro 41 iv rv) : zro 54 (iu (iu (ifill (iu (iu (iu (iu iv 42 5 (-1)) 42 7 (-1)) 46 5 (-1)) 46 7 (-1)) 50 0 8 (-1)) 40 9 (-1)) 40 10 (-1)) (ru (ru (ru (ru (ru (ru (ru (ru (ru (ru (ru (ru (ru (ru (ru (ru (ru rv 40 0 (some 10)) 40 1 (some 15)) 40 2 (some 41)) 42 0 (some 14)) 42 1 (some 43)) 42 2 (some 44)) 42 3 (some 45)) 41 0 (some 42)) 46 0 (some 14)) 46 1 (some 47)) 46 2 (some 48)) 46 3 (some 49)) 41 1 (some 46)) 40 3 (some 50)) 40 4 (some 51)) 40 5 (some 52)) 40 6 (some 53)) := by
  have z1 := zro_r (o := 40) (k := 0) (x := some 10) hz (by decide)
  have z2 := zro_r (o := 40) (k := 1) (x := some 15) z1 (by decide)
  have z3 := zro_s z2
  have z4 := zro_r (o := 40) (k := 2) (x := some 41) z3 (by decide)
  have z5 := zro_s z4
  have z6 := iSide_z (o := 42) (a := 14) z5
  have z7 := zro_r (o := 41) (k := 0) (x := some 42) z6 (by decide)
  have z8 := zro_s z7
  have z9 := iSide_z (o := 46) (a := 14) z8
  have z10 := zro_r (o := 41) (k := 1) (x := some 46) z9 (by decide)
  have z11 := zro_s z10
  have z12 := zro_r (o := 40) (k := 3) (x := some 50) z11 (by decide)
  have z13 := zro_s z12
  have z14 := zro_r (o := 40) (k := 4) (x := some 51) z13 (by decide)
  have z15 := zro_s z14
  have z16 := zro_r (o := 40) (k := 5) (x := some 52) z15 (by decide)
  have z17 := zro_s z16
  have z18 := zro_r (o := 40) (k := 6) (x := some 53) z17 (by decide)
  have z19 := zro_f (o := 50) (a := 0) (b := 8) (x := (-1)) z18 (by decide)
  have z20 := zro_i (o := 40) (k := 9) (x := (-1)) z19 (by decide)
  have z21 := zro_i (o := 40) (k := 10) (x := (-1)) z20 (by decide)
  exact z21

