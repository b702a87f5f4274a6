/-! ===== the order of songs: the class ===== -/
abbrev ahd (h l : Int → Int) (a b : Int) : Prop := h b * max 1 (l a) < h a * max 1 (l b)
theorem ahd_r {h l : Int → Int} (x : Int) : ¬ ahd h l x x := Int.lt_irrefl _
theorem ahd_a {h l : Int → Int} (a b : Int) (q : ahd h l a b) : ¬ ahd h l b a := Int.not_lt.mpr (Int.le_of_lt q)
theorem ahd_t {h l : Int → Int} (a b c : Int) (q : ¬ ahd h l a b) (r : ¬ ahd h l b c) : ¬ ahd h l a c := by
  have q := Int.not_lt.mp q
  have r := Int.not_lt.mp r
  refine Int.not_lt.mpr ?_
  have pa : (0 : Int) < max 1 (l a) := by omega
  have pb : (0 : Int) < max 1 (l b) := by omega
  have pc : (0 : Int) < max 1 (l c) := by omega
  generalize max 1 (l a) = A at *
  generalize max 1 (l b) = B at *
  generalize max 1 (l c) = C at *
  have s1 : h a * B * C ≤ h b * A * C := Int.mul_le_mul_of_nonneg_right q (Int.le_of_lt pc)
  have s2 : h b * C * A ≤ h c * B * A := Int.mul_le_mul_of_nonneg_right r (Int.le_of_lt pa)
  refine Int.le_of_mul_le_mul_left (a := B) ?_ pb
  calc B * (h a * C) = h a * B * C := by rw [Int.mul_comm B, Int.mul_assoc, Int.mul_comm C, Int.mul_assoc]
    _ ≤ h b * A * C := s1
    _ = h b * C * A := by rw [Int.mul_assoc, Int.mul_comm A, Int.mul_assoc]
    _ ≤ h c * B * A := s2
    _ = B * (h c * A) := by rw [Int.mul_comm B, Int.mul_assoc, Int.mul_comm B, Int.mul_assoc]
set_option maxRecDepth 20000 in
theorem sX3_sideIn_0 {G : ZG} {d : Nat} {iv : Nat → Nat → Int} {K : Option AV → AH → Prop} {rv : Nat → Nat → Option Nat} {x1 x2 : Int} (hR : RC rv) (h : (-2147483648 ≤ ((iv 30 3) - 1) ∧ ((iv 30 3) - 1) ≤ 2147483647) ∧ ((-2147483648 ≤ (((iv 30 3) - 1) - x2) ∧ (((iv 30 3) - 1) - x2) ≤ 2147483647) ∧ (K (some (vi (zand (zshr x1 (((iv 30 3) - 1) - x2)) 1))) (mkC iv rv)))) : Z G mX3_sideIn d 0 0 0 [vr (some 30), vi x1, vi x2] [] (mkC iv rv) K := (Z_iload_n (dX3_sideIn 0) rfl (Z_aload_n (dX3_sideIn 1) rfl (Z_gIC (x := (iv 30 3)) (dX3_sideIn 2) lk_X3_15 sC30 (Or.inl rfl) rfl (Z_iconst (dX3_sideIn 3) ⟨by decide, by decide⟩ (Z_isub (dX3_sideIn 4) h.1 (Z_iload_n (dX3_sideIn 5) rfl (Z_isub (dX3_sideIn 6) h.2.1 (Z_ishr (dX3_sideIn 7) (Z_iconst (dX3_sideIn 8) ⟨by decide, by decide⟩ (Z_iand (dX3_sideIn 9) (Z_ireturn (dX3_sideIn 10) rfl h.2.2)))))))))))
def sdIn (n code s : Int) : Int := zand (zshr code (n - 1 - s)) 1
theorem C_sideIn {G : ZG} {d : Nat} {iv : Nat → Nat → Int} {K : Option AV → AH → Prop} {rv : Nat → Nat → Option Nat} {x1 x2 : Int} (hR : RC rv) (h1 : 0 ≤ iv 30 3 ∧ iv 30 3 ≤ 10) (h2 : 0 ≤ x2 ∧ x2 < 10) (k : K (some (vi (sdIn (iv 30 3) x1 x2))) (mkC iv rv)) : Z G mX3_sideIn d 0 0 0 [vr (some 30), vi x1, vi x2] [] (mkC iv rv) K := sX3_sideIn_0 hR ⟨by omega, by omega, k⟩
set_option maxRecDepth 20000 in
theorem sX3_comesAhead_0 {G : ZG} {d : Nat} {iv : Nat → Nat → Int} {K : Option AV → AH → Prop} {rv : Nat → Nat → Option Nat} {x1 x2 : Int} (hR : RC rv) (h : (0 ≤ x1 ∧ x1 < (10 : Nat)) ∧ ((0 ≤ x2 ∧ x2 < (10 : Nat)) ∧ ((-2147483648 ≤ ((iv 13 ((x1).toNat)) * (iv 12 ((x2).toNat))) ∧ ((iv 13 ((x1).toNat)) * (iv 12 ((x2).toNat))) ≤ 2147483647) ∧ ((0 ≤ x2 ∧ x2 < (10 : Nat)) ∧ ((0 ≤ x1 ∧ x1 < (10 : Nat)) ∧ ((-2147483648 ≤ ((iv 13 ((x2).toNat)) * (iv 12 ((x1).toNat))) ∧ ((iv 13 ((x2).toNat)) * (iv 12 ((x1).toNat))) ≤ 2147483647) ∧ ((((iv 13 ((x1).toNat)) * (iv 12 ((x2).toNat))) ≤ ((iv 13 ((x2).toNat)) * (iv 12 ((x1).toNat))) → (K (some (vi 0)) (mkC iv rv))) ∧ (((iv 13 ((x2).toNat)) * (iv 12 ((x1).toNat))) < ((iv 13 ((x1).toNat)) * (iv 12 ((x2).toNat))) → (K (some (vi 1)) (mkC iv rv)))))))))) : Z G mX3_comesAhead d 0 0 0 [vr (some 10), vi x1, vi x2] [] (mkC iv rv) K := (Z_aload_n (dX3_comesAhead 0) rfl (Z_gRC (r := (some 13)) (dX3_comesAhead 1) lk_X3_48 sC10 rfl (hR 20) (Z_iload_n (dX3_comesAhead 2) rfl (Z_ilC (x := (iv 13 ((x1).toNat))) (dX3_comesAhead 3) sC13 h.1 rfl (Z_aload_n (dX3_comesAhead 4) rfl (Z_gRC (r := (some 12)) (dX3_comesAhead 5) lk_X3_51 sC10 rfl (hR 19) (Z_iload_n (dX3_comesAhead 6) rfl (Z_ilC (x := (iv 12 ((x2).toNat))) (dX3_comesAhead 7) sC12 h.2.1 rfl (Z_imul (dX3_comesAhead 8) h.2.2.1 (Z_aload_n (dX3_comesAhead 9) rfl (Z_gRC (r := (some 13)) (dX3_comesAhead 10) lk_X3_48 sC10 rfl (hR 20) (Z_iload_n (dX3_comesAhead 11) rfl (Z_ilC (x := (iv 13 ((x2).toNat))) (dX3_comesAhead 12) sC13 h.2.2.2.1 rfl (Z_aload_n (dX3_comesAhead 13) rfl (Z_gRC (r := (some 12)) (dX3_comesAhead 14) lk_X3_51 sC10 rfl (hR 19) (Z_iload_n (dX3_comesAhead 15) rfl (Z_ilC (x := (iv 12 ((x1).toNat))) (dX3_comesAhead 16) sC12 h.2.2.2.2.1 rfl (Z_imul (dX3_comesAhead 17) h.2.2.2.2.2.1 (Z_icmp_le (dX3_comesAhead 18) rfl (fun c1 => (Z_iconst (dX3_comesAhead 21) ⟨by decide, by decide⟩ (Z_zreturn (dX3_comesAhead 22) rfl (Or.inl rfl) (h.2.2.2.2.2.2.1 c1)))) (fun c2 => (Z_iconst (dX3_comesAhead 19) ⟨by decide, by decide⟩ (Z_goto (dX3_comesAhead 20) rfl (Z_zreturn (dX3_comesAhead 22) rfl (Or.inr rfl) (h.2.2.2.2.2.2.2 c2))))))))))))))))))))))))
abbrev ahC (iv : Nat → Nat → Int) : Int → Int → Prop := ahd (fun i => iv 13 i.toNat) (fun i => iv 12 i.toNat)
def okSg (iv : Nat → Nat → Int) (s : Int) : Prop := (0 ≤ s ∧ s < 10) ∧ (1 ≤ iv 12 s.toNat ∧ iv 12 s.toNat ≤ 60) ∧ (0 ≤ iv 13 s.toNat ∧ iv 13 s.toNat ≤ 9)
theorem sg_mul {x y : Int} (h1 : 0 ≤ x ∧ x ≤ 9) (h2 : 1 ≤ y ∧ y ≤ 60) : 0 ≤ x * y ∧ x * y ≤ 540 := ⟨Int.mul_nonneg h1.1 (by omega), Int.le_trans (Int.mul_le_mul h1.2 h2.2 (by omega) (by omega)) (by decide)⟩
theorem C_comesAhead {G : ZG} {d : Nat} {iv : Nat → Nat → Int} {K : Option AV → AH → Prop} {rv : Nat → Nat → Option Nat} {x1 x2 : Int} (hR : RC rv) (h1 : okSg iv x1) (h2 : okSg iv x2) (k : K (some (vi (b01 (ahC iv x1 x2)))) (mkC iv rv)) : Z G mX3_comesAhead d 0 0 0 [vr (some 10), vi x1, vi x2] [] (mkC iv rv) K := by
  obtain ⟨a1, a2, a3⟩ := h1
  obtain ⟨b1, b2, b3⟩ := h2
  have m1 := sg_mul a3 b2
  have m2 := sg_mul b3 a2
  apply sX3_comesAhead_0 hR
  unfold b01 ahC ahd at k
  dsimp only at k
  rw [show max 1 (iv 12 x1.toNat) = iv 12 x1.toNat by omega, show max 1 (iv 12 x2.toNat) = iv 12 x2.toNat by omega] at k
  refine ⟨by omega, by omega, by omega, by omega, by omega, by omega, fun n => ?_, fun e => ?_⟩
  · rw [if_neg (Int.not_lt.mpr n)] at k; exact k
  · rw [if_pos e] at k; exact k
set_option maxRecDepth 20000 in
theorem sX3_putInSequence_0 {G : ZG} {d : Nat} {iv : Nat → Nat → Int} {K : Option AV → AH → Prop} {rv : Nat → Nat → Option Nat} (hR : RC rv) (h : Z G mX3_putInSequence (d + 1) 0 0 2 [vr (some 30), vr (some 10), vi 0, vu] [] (mkC iv rv) K) : Z G mX3_putInSequence (d + 1) 0 0 0 [vr (some 30), vr (some 10), vu, vu] [] (mkC iv rv) K := (Z_iconst (dX3_putInSequence 0) ⟨by decide, by decide⟩ (Z_istore_n (dX3_putInSequence 1) (Nat.le_of_ble_eq_true rfl) rfl h))
set_option maxRecDepth 20000 in
theorem sX3_putInSequence_2 {G : ZG} {d : Nat} {iv : Nat → Nat → Int} {K : Option AV → AH → Prop} {rv : Nat → Nat → Option Nat} {x2 : Int} (hR : RC rv) (h : ((iv 30 3) ≤ x2 → (K none (mkC iv rv))) ∧ (x2 < (iv 30 3) → (Z G mX3_putInSequence (d + 1) 0 0 12 [vr (some 30), vr (some 10), vi x2, vi x2] [] (mkC iv rv) K))) : Z G mX3_putInSequence (d + 1) 0 0 2 [vr (some 30), vr (some 10), vi x2, vu] [] (mkC iv rv) K := (Z_iload_n (dX3_putInSequence 2) rfl (Z_aload_n (dX3_putInSequence 3) rfl (Z_gIC (x := (iv 30 3)) (dX3_putInSequence 4) lk_X3_15 sC30 (Or.inl rfl) rfl (Z_icmp_ge (dX3_putInSequence 5) rfl (fun c1 => (Z_return (dX3_putInSequence 39) rfl (h.1 c1))) (fun c2 => (Z_iload_n (dX3_putInSequence 6) rfl (Z_istore_n (dX3_putInSequence 7) (Nat.le_of_ble_eq_true rfl) rfl (h.2 c2))))))))
set_option maxRecDepth 20000 in
theorem sX3_putInSequence_12 {G : ZG} {d : Nat} {iv : Nat → Nat → Int} {K : Option AV → AH → Prop} {rv : Nat → Nat → Option Nat} {x2 x3 : Int} (hR : RC rv) (h : (x3 ≤ 0 → ((0 ≤ x3 ∧ x3 < (10 : Nat)) ∧ ((-2147483648 ≤ (x2 + 1) ∧ (x2 + 1) ≤ 2147483647) ∧ (Z G mX3_putInSequence (d + 1) 0 0 2 [vr (some 30), vr (some 10), vi (x2 + 1), vu] [] (mkC (iu iv 31 ((x3).toNat) x2) rv) K)))) ∧ (0 < x3 → ((-2147483648 ≤ (x3 - 1) ∧ (x3 - 1) ≤ 2147483647) ∧ ((0 ≤ (x3 - 1) ∧ (x3 - 1) < (10 : Nat)) ∧ ((okSg iv x2) ∧ ((okSg iv (iv 31 ((x3 - 1).toNat))) ∧ ((¬ (ahC iv x2 (iv 31 ((x3 - 1).toNat))) → ((0 ≤ x3 ∧ x3 < (10 : Nat)) ∧ ((-2147483648 ≤ (x2 + 1) ∧ (x2 + 1) ≤ 2147483647) ∧ (Z G mX3_putInSequence (d + 1) 0 0 2 [vr (some 30), vr (some 10), vi (x2 + 1), vu] [] (mkC (iu iv 31 ((x3).toNat) x2) rv) K)))) ∧ (ahC iv x2 (iv 31 ((x3 - 1).toNat)) → ((-2147483648 ≤ (x3 - 1) ∧ (x3 - 1) ≤ 2147483647) ∧ ((0 ≤ (x3 - 1) ∧ (x3 - 1) < (10 : Nat)) ∧ ((0 ≤ x3 ∧ x3 < (10 : Nat)) ∧ ((-2147483648 ≤ (x3 + (-1)) ∧ (x3 + (-1)) ≤ 2147483647) ∧ (Z G mX3_putInSequence (d + 1) 0 0 12 [vr (some 30), vr (some 10), vi x2, vi (x3 + (-1))] [] (mkC (iu iv 31 ((x3).toNat) (iv 31 ((x3 - 1).toNat))) rv) K))))))))))))) : Z G mX3_putInSequence (d + 1) 0 0 12 [vr (some 30), vr (some 10), vi x2, vi x3] [] (mkC iv rv) K := (Z_iload_n (dX3_putInSequence 8) rfl (Z_if_le (dX3_putInSequence 9) rfl (fun c1 => (Z_aload_n (dX3_putInSequence 32) rfl (Z_gRC (r := (some 31)) (dX3_putInSequence 33) lk_X3_9 sC30 rfl (hR 39) (Z_iload_n (dX3_putInSequence 34) rfl (Z_iload_n (dX3_putInSequence 35) rfl (Z_iastC (dX3_putInSequence 36) sC31 (h.1 c1).1 (Z_iinc (dX3_putInSequence 37) rfl (Nat.le_of_ble_eq_true rfl) (h.1 c1).2.1 rfl (Z_goto (dX3_putInSequence 38) rfl (Z.fg (L' := [vr (some 30), vr (some 10), vi (x2 + 1), vu]) (L := [vr (some 30), vr (some 10), vi (x2 + 1), vi x3]) ⟨Or.inl rfl, ⟨Or.inl rfl, ⟨Or.inl rfl, ⟨Or.inr rfl, trivial⟩⟩⟩⟩ (h.1 c1).2.2))))))))) (fun c2 => (Z_aload_n (dX3_putInSequence 10) rfl (Z_iload_n (dX3_putInSequence 11) rfl (Z_aload_n (dX3_putInSequence 12) rfl (Z_gRC (r := (some 31)) (dX3_putInSequence 13) lk_X3_9 sC30 rfl (hR 39) (Z_iload_n (dX3_putInSequence 14) rfl (Z_iconst (dX3_putInSequence 15) ⟨by decide, by decide⟩ (Z_isub (dX3_putInSequence 16) (h.2 c2).1 (Z_ilC (x := (iv 31 ((x3 - 1).toNat))) (dX3_putInSequence 17) sC31 (h.2 c2).2.1 rfl (Z_cS (As := [vr (some 10), vi x2, vi (iv 31 ((x3 - 1).toNat))]) (S := []) (dX3_putInSequence 18) lk_X3_44 rfl (Nat.le_of_ble_eq_true rfl) (Nat.le_of_ble_eq_true rfl) (C_comesAhead hR (h.2 c2).2.2.1 (h.2 c2).2.2.2.1 ((Z_if_eq (dX3_putInSequence 19) rfl (fun c3 => (Z_aload_n (dX3_putInSequence 32) rfl (Z_gRC (r := (some 31)) (dX3_putInSequence 33) lk_X3_9 sC30 rfl (hR 39) (Z_iload_n (dX3_putInSequence 34) rfl (Z_iload_n (dX3_putInSequence 35) rfl (Z_iastC (dX3_putInSequence 36) sC31 ((h.2 c2).2.2.2.2.1 (b01_0.mp c3)).1 (Z_iinc (dX3_putInSequence 37) rfl (Nat.le_of_ble_eq_true rfl) ((h.2 c2).2.2.2.2.1 (b01_0.mp c3)).2.1 rfl (Z_goto (dX3_putInSequence 38) rfl (Z.fg (L' := [vr (some 30), vr (some 10), vi (x2 + 1), vu]) (L := [vr (some 30), vr (some 10), vi (x2 + 1), vi x3]) ⟨Or.inl rfl, ⟨Or.inl rfl, ⟨Or.inl rfl, ⟨Or.inr rfl, trivial⟩⟩⟩⟩ ((h.2 c2).2.2.2.2.1 (b01_0.mp c3)).2.2))))))))) (fun c4 => (Z_aload_n (dX3_putInSequence 20) rfl (Z_gRC (r := (some 31)) (dX3_putInSequence 21) lk_X3_9 sC30 rfl (hR 39) (Z_iload_n (dX3_putInSequence 22) rfl (Z_aload_n (dX3_putInSequence 23) rfl (Z_gRC (r := (some 31)) (dX3_putInSequence 24) lk_X3_9 sC30 rfl (hR 39) (Z_iload_n (dX3_putInSequence 25) rfl (Z_iconst (dX3_putInSequence 26) ⟨by decide, by decide⟩ (Z_isub (dX3_putInSequence 27) ((h.2 c2).2.2.2.2.2 (b01_n.mp c4)).1 (Z_ilC (x := (iv 31 ((x3 - 1).toNat))) (dX3_putInSequence 28) sC31 ((h.2 c2).2.2.2.2.2 (b01_n.mp c4)).2.1 rfl (Z_iastC (dX3_putInSequence 29) sC31 ((h.2 c2).2.2.2.2.2 (b01_n.mp c4)).2.2.1 (Z_iinc (dX3_putInSequence 30) rfl (Nat.le_of_ble_eq_true rfl) ((h.2 c2).2.2.2.2.2 (b01_n.mp c4)).2.2.2.1 rfl (Z_goto (dX3_putInSequence 31) rfl ((h.2 c2).2.2.2.2.2 (b01_n.mp c4)).2.2.2.2))))))))))))))))))))))))))))
theorem C_putInSequence {G : ZG} {d : Nat} {iv : Nat → Nat → Int} {K : Option AV → AH → Prop} {rv : Nat → Nat → Option Nat} (hR : RC rv) (hn : 0 ≤ iv 30 3 ∧ iv 30 3 ≤ 10) (hs : ∀ s, 0 ≤ s → s < iv 30 3 → okSg iv s) (k : ∀ v : Nat → Nat → Int, (∀ i, i ≠ 31 → v i = iv i) ∧ rl (fun i => v 31 i.toNat) (iv 30 3).toNat = srt (ahC iv) (fun _ => true) (iv 30 3).toNat → K none (mkC v rv)) : Z G mX3_putInSequence (d + 1) 0 0 0 [vr (some 30), vr (some 10), vu, vu] [] (mkC iv rv) K := by
  apply sX3_putInSequence_0 hR
  refine lp_up (P := fun s v => Z G mX3_putInSequence (d + 1) 0 0 2 [vr (some 30), vr (some 10), vi s, vu] [] (mkC v rv) K) (iv 30 3) (fun s v => 0 ≤ s ∧ (∀ i, i ≠ 31 → v i = iv i) ∧ rl (fun i => v 31 i.toNat) s.toNat = srt (ahC iv) (fun _ => true) s.toNat) ?_ ?_ 0 iv (by omega) ⟨by omega, fun _ _ => rfl, rfl⟩
  · rintro v ⟨-, f1, f2⟩
    apply sX3_putInSequence_2 hR
    rw [f1 30 (by omega)]
    exact ⟨fun _ => k v ⟨f1, f2⟩, fun h => by omega⟩
  · rintro s v hsn ⟨s0, f1, f2⟩ ih
    apply sX3_putInSequence_2 hR
    rw [f1 30 (by omega)]
    refine ⟨fun h => by omega, fun _ => ?_⟩
    have mem : ∀ i, 0 ≤ i → i < s → 0 ≤ v 31 i.toNat ∧ v 31 i.toNat < s := by
      intro i a b
      have q : v 31 i.toNat ∈ rl (fun i => v 31 i.toNat) s.toNat := (rl_mem _).mpr ⟨i, a, by omega, rfl⟩
      rw [f2] at q
      have := ((srt_mem _).mp q).1
      omega
    have fin : ∀ (j : Int) (w : Nat → Nat → Int), 0 ≤ j → j ≤ s → (∀ i, i ≠ 31 → w i = iv i) → (∀ i, 0 ≤ i → i < j → w 31 i.toNat = v 31 i.toNat) → (∀ i, j ≤ i → i < s → w 31 (i + 1).toNat = v 31 i.toNat) → (∀ i, j ≤ i → i < s → ahC iv s (v 31 i.toNat)) → (j = 0 ∨ ¬ ahC iv s (v 31 (j - 1).toNat)) → Z G mX3_putInSequence (d + 1) 0 0 2 [vr (some 30), vr (some 10), vi (s + 1), vu] [] (mkC (iu w 31 j.toNat s) rv) K := by
      intro j w j0 js g1 g2 g3 g4 g5
      refine ih _ ⟨by omega, fun i hi => ?_, ?_⟩
      · rw [← g1 i hi]; funext q; exact iu_o hi
      · rw [show (s + 1).toNat = s.toNat + 1 by omega]
        have q := rl_ins (A := ahC iv) (f := fun i => iu w 31 j.toNat s 31 i.toNat) (g := fun i => v 31 i.toNat) (s := s) (k := j) j0 (fun i a b => ?_) iu_eq g5 s.toNat (by omega) (fun i a b => ?_) (fun i a b => g4 i a (by omega))
        · rw [q, f2]
          conv => rhs; unfold srt
          rw [if_pos rfl, show ((s.toNat : Nat) : Int) = s by omega]
        · rw [iu_k (by omega)]; exact g2 i a b
        · rw [iu_k (by omega)]; exact g3 i a (by omega)
    refine lp_dn (P := fun j w => Z G mX3_putInSequence (d + 1) 0 0 12 [vr (some 30), vr (some 10), vi s, vi j] [] (mkC w rv) K) 0 (fun j w => 0 ≤ j ∧ j ≤ s ∧ (∀ i, i ≠ 31 → w i = iv i) ∧ (∀ i, 0 ≤ i → i < j → w 31 i.toNat = v 31 i.toNat) ∧ (∀ i, j ≤ i → i < s → w 31 (i + 1).toNat = v 31 i.toNat) ∧ (∀ i, j ≤ i → i < s → ahC iv s (v 31 i.toNat))) ?_ ?_ s v s0 ⟨s0, by omega, f1, fun _ _ _ => rfl, fun i a b => by omega, fun i a b => by omega⟩
    · rintro w ⟨j0, js, g1, g2, g3, g4⟩
      apply sX3_putInSequence_12 hR
      exact ⟨fun _ => ⟨by omega, by omega, fin 0 w j0 js g1 g2 g3 g4 (Or.inl rfl)⟩, fun h => by omega⟩
    · rintro j w hj ⟨j0, js, g1, g2, g3, g4⟩ ihj
      apply sX3_putInSequence_12 hR
      have ew : w 31 (j - 1).toNat = v 31 (j - 1).toNat := g2 (j - 1) (by omega) (by omega)
      have eA : ahC w = ahC iv := by unfold ahC; rw [g1 12 (by omega), g1 13 (by omega)]
      have eS : ∀ x, okSg w x ↔ okSg iv x := by intro x; unfold okSg; rw [g1 12 (by omega), g1 13 (by omega)]
      have m := mem (j - 1) (by omega) (by omega)
      rw [ew, eA, eS, eS]
      refine ⟨fun h => by omega, fun _ => ⟨by omega, by omega, hs s s0 hsn, hs _ m.1 (by omega), fun n => ⟨by omega, by omega, fin j w j0 js g1 g2 g3 g4 (Or.inr n)⟩, fun e => ⟨by omega, by omega, by omega, by omega, ?_⟩⟩⟩
      refine ihj _ ⟨by omega, by omega, fun i hi => ?_, fun i a b => ?_, fun i a b => ?_, fun i a b => ?_⟩
      · rw [← g1 i hi]; funext q; exact iu_o hi
      · rw [iu_k (by omega)]; exact g2 i a (by omega)
      · by_cases e2 : i = j - 1
        · subst e2
          rw [show j - 1 + 1 = j by omega, iu_eq]
        · rw [iu_k (by omega)]; exact g3 i (by omega) b
      · by_cases e2 : i = j - 1
        · subst e2; exact e
        · exact g4 i (by omega) b
set_option maxRecDepth 20000 in
theorem sX3_lossOf_0 {G : ZG} {d : Nat} {iv : Nat → Nat → Int} {K : Option AV → AH → Prop} {rv : Nat → Nat → Option Nat} {x2 : Int} (hR : RC rv) (h : Z G mX3_lossOf (d + 1) 0 0 11 [vr (some 30), vr (some 10), vi x2, vi 0, vi 0, vi 0, vi 0, vu] [] (mkC iv rv) K) : Z G mX3_lossOf (d + 1) 0 0 0 [vr (some 30), vr (some 10), vi x2, vu, vu, vu, vu, vu] [] (mkC iv rv) K := (Z_iconst (dX3_lossOf 0) ⟨by decide, by decide⟩ (Z_istore_n (dX3_lossOf 1) (Nat.le_of_ble_eq_true rfl) rfl (Z_iconst (dX3_lossOf 2) ⟨by decide, by decide⟩ (Z_istore (dX3_lossOf 3) (Nat.le_of_ble_eq_true rfl) rfl (Z_iconst (dX3_lossOf 4) ⟨by decide, by decide⟩ (Z_istore (dX3_lossOf 5) (Nat.le_of_ble_eq_true rfl) rfl (Z_iconst (dX3_lossOf 6) ⟨by decide, by decide⟩ (Z_istore (dX3_lossOf 7) (Nat.le_of_ble_eq_true rfl) rfl h))))))))
set_option maxRecDepth 20000 in
theorem sX3_lossOf_11 {G : ZG} {d : Nat} {iv : Nat → Nat → Int} {K : Option AV → AH → Prop} {rv : Nat → Nat → Option Nat} {x2 x3 x4 x5 x6 : Int} (hR : RC rv) (h : ((iv 30 3) ≤ x6 → (((iv 30 4) < x4 → (K (some (vi (-1))) (mkC iv rv))) ∧ (x4 ≤ (iv 30 4) → ((x5 ≤ (iv 30 4) → (K (some (vi x3)) (mkC iv rv))) ∧ ((iv 30 4) < x5 → (K (some (vi (-1))) (mkC iv rv))))))) ∧ (x6 < (iv 30 3) → ((0 ≤ x6 ∧ x6 < (10 : Nat)) ∧ ((0 ≤ iv 30 3 ∧ iv 30 3 ≤ 10) ∧ ((0 ≤ (iv 31 ((x6).toNat)) ∧ (iv 31 ((x6).toNat)) < 10) ∧ ((¬ (sdIn (iv 30 3) x2 (iv 31 ((x6).toNat))) = 0 → ((0 ≤ (iv 31 ((x6).toNat)) ∧ (iv 31 ((x6).toNat)) < (10 : Nat)) ∧ ((-2147483648 ≤ ((iv 13 ((iv 31 ((x6).toNat)).toNat)) * x5) ∧ ((iv 13 ((iv 31 ((x6).toNat)).toNat)) * x5) ≤ 2147483647) ∧ ((-2147483648 ≤ (x3 + ((iv 13 ((iv 31 ((x6).toNat)).toNat)) * x5)) ∧ (x3 + ((iv 13 ((iv 31 ((x6).toNat)).toNat)) * x5)) ≤ 2147483647) ∧ ((0 ≤ (iv 31 ((x6).toNat)) ∧ (iv 31 ((x6).toNat)) < (10 : Nat)) ∧ ((-2147483648 ≤ (x5 + (iv 12 ((iv 31 ((x6).toNat)).toNat))) ∧ (x5 + (iv 12 ((iv 31 ((x6).toNat)).toNat))) ≤ 2147483647) ∧ ((-2147483648 ≤ (x6 + 1) ∧ (x6 + 1) ≤ 2147483647) ∧ (Z G mX3_lossOf (d + 1) 0 0 11 [vr (some 30), vr (some 10), vi x2, vi (x3 + ((iv 13 ((iv 31 ((x6).toNat)).toNat)) * x5)), vi x4, vi (x5 + (iv 12 ((iv 31 ((x6).toNat)).toNat))), vi (x6 + 1), vu] [] (mkC iv rv) K)))))))) ∧ ((sdIn (iv 30 3) x2 (iv 31 ((x6).toNat))) = 0 → ((0 ≤ (iv 31 ((x6).toNat)) ∧ (iv 31 ((x6).toNat)) < (10 : Nat)) ∧ ((-2147483648 ≤ ((iv 13 ((iv 31 ((x6).toNat)).toNat)) * x4) ∧ ((iv 13 ((iv 31 ((x6).toNat)).toNat)) * x4) ≤ 2147483647) ∧ ((-2147483648 ≤ (x3 + ((iv 13 ((iv 31 ((x6).toNat)).toNat)) * x4)) ∧ (x3 + ((iv 13 ((iv 31 ((x6).toNat)).toNat)) * x4)) ≤ 2147483647) ∧ ((0 ≤ (iv 31 ((x6).toNat)) ∧ (iv 31 ((x6).toNat)) < (10 : Nat)) ∧ ((-2147483648 ≤ (x4 + (iv 12 ((iv 31 ((x6).toNat)).toNat))) ∧ (x4 + (iv 12 ((iv 31 ((x6).toNat)).toNat))) ≤ 2147483647) ∧ ((-2147483648 ≤ (x6 + 1) ∧ (x6 + 1) ≤ 2147483647) ∧ (Z G mX3_lossOf (d + 1) 0 0 11 [vr (some 30), vr (some 10), vi x2, vi (x3 + ((iv 13 ((iv 31 ((x6).toNat)).toNat)) * x4)), vi (x4 + (iv 12 ((iv 31 ((x6).toNat)).toNat))), vi x5, vi (x6 + 1), vu] [] (mkC iv rv) K)))))))))))))) : Z G mX3_lossOf (d + 1) 0 0 11 [vr (some 30), vr (some 10), vi x2, vi x3, vi x4, vi x5, vi x6, vu] [] (mkC iv rv) K := (Z_iload (dX3_lossOf 8) rfl (Z_aload_n (dX3_lossOf 9) rfl (Z_gIC (x := (iv 30 3)) (dX3_lossOf 10) lk_X3_15 sC30 (Or.inl rfl) rfl (Z_icmp_ge (dX3_lossOf 11) rfl (fun c1 => (Z_iload (dX3_lossOf 57) rfl (Z_aload_n (dX3_lossOf 58) rfl (Z_gIC (x := (iv 30 4)) (dX3_lossOf 59) lk_X3_31 sC30 (Or.inl rfl) rfl (Z_icmp_gt (dX3_lossOf 60) rfl (fun c3 => (Z_iconst (dX3_lossOf 65) ⟨by decide, by decide⟩ (Z_goto (dX3_lossOf 66) rfl (Z_ireturn (dX3_lossOf 68) rfl ((h.1 c1).1 c3))))) (fun c4 => (Z_iload (dX3_lossOf 61) rfl (Z_aload_n (dX3_lossOf 62) rfl (Z_gIC (x := (iv 30 4)) (dX3_lossOf 63) lk_X3_31 sC30 (Or.inl rfl) rfl (Z_icmp_le (dX3_lossOf 64) rfl (fun c5 => (Z_iload_n (dX3_lossOf 67) rfl (Z_ireturn (dX3_lossOf 68) rfl (((h.1 c1).2 c4).1 c5)))) (fun c6 => (Z_iconst (dX3_lossOf 65) ⟨by decide, by decide⟩ (Z_goto (dX3_lossOf 66) rfl (Z_ireturn (dX3_lossOf 68) rfl (((h.1 c1).2 c4).2 c6))))))))))))))) (fun c2 => (Z_aload_n (dX3_lossOf 12) rfl (Z_gRC (r := (some 31)) (dX3_lossOf 13) lk_X3_9 sC30 rfl (hR 39) (Z_iload (dX3_lossOf 14) rfl (Z_ilC (x := (iv 31 ((x6).toNat))) (dX3_lossOf 15) sC31 (h.2 c2).1 rfl (Z_istore (dX3_lossOf 16) (Nat.le_of_ble_eq_true rfl) rfl (Z_aload_n (dX3_lossOf 17) rfl (Z_iload_n (dX3_lossOf 18) rfl (Z_iload (dX3_lossOf 19) rfl (Z_cVC (As := [vi x2, vi (iv 31 ((x6).toNat))]) (S := []) (dX3_lossOf 20) lk_X3_22 sC30 (by decide) rfl rfl (Nat.le_of_ble_eq_true rfl) (Nat.le_of_ble_eq_true rfl) (C_sideIn hR (h.2 c2).2.1 (h.2 c2).2.2.1 ((Z_if_ne (dX3_lossOf 21) rfl (fun c7 => (Z_iload_n (dX3_lossOf 39) rfl (Z_aload_n (dX3_lossOf 40) rfl (Z_gRC (r := (some 13)) (dX3_lossOf 41) lk_X3_48 sC10 rfl (hR 20) (Z_iload (dX3_lossOf 42) rfl (Z_ilC (x := (iv 13 ((iv 31 ((x6).toNat)).toNat))) (dX3_lossOf 43) sC13 ((h.2 c2).2.2.2.1 c7).1 rfl (Z_iload (dX3_lossOf 44) rfl (Z_imul (dX3_lossOf 45) ((h.2 c2).2.2.2.1 c7).2.1 (Z_iadd (dX3_lossOf 46) ((h.2 c2).2.2.2.1 c7).2.2.1 (Z_istore_n (dX3_lossOf 47) (Nat.le_of_ble_eq_true rfl) rfl (Z_iload (dX3_lossOf 48) rfl (Z_aload_n (dX3_lossOf 49) rfl (Z_gRC (r := (some 12)) (dX3_lossOf 50) lk_X3_51 sC10 rfl (hR 19) (Z_iload (dX3_lossOf 51) rfl (Z_ilC (x := (iv 12 ((iv 31 ((x6).toNat)).toNat))) (dX3_lossOf 52) sC12 ((h.2 c2).2.2.2.1 c7).2.2.2.1 rfl (Z_iadd (dX3_lossOf 53) ((h.2 c2).2.2.2.1 c7).2.2.2.2.1 (Z_istore (dX3_lossOf 54) (Nat.le_of_ble_eq_true rfl) rfl (Z_iinc (dX3_lossOf 55) rfl (Nat.le_of_ble_eq_true rfl) ((h.2 c2).2.2.2.1 c7).2.2.2.2.2.1 rfl (Z_goto (dX3_lossOf 56) rfl (Z.fg (L' := [vr (some 30), vr (some 10), vi x2, vi (x3 + ((iv 13 ((iv 31 ((x6).toNat)).toNat)) * x5)), vi x4, vi (x5 + (iv 12 ((iv 31 ((x6).toNat)).toNat))), vi (x6 + 1), vu]) (L := [vr (some 30), vr (some 10), vi x2, vi (x3 + ((iv 13 ((iv 31 ((x6).toNat)).toNat)) * x5)), vi x4, vi (x5 + (iv 12 ((iv 31 ((x6).toNat)).toNat))), vi (x6 + 1), vi (iv 31 ((x6).toNat))]) ⟨Or.inl rfl, ⟨Or.inl rfl, ⟨Or.inl rfl, ⟨Or.inl rfl, ⟨Or.inl rfl, ⟨Or.inl rfl, ⟨Or.inl rfl, ⟨Or.inr rfl, trivial⟩⟩⟩⟩⟩⟩⟩⟩ ((h.2 c2).2.2.2.1 c7).2.2.2.2.2.2)))))))))))))))))))) (fun c8 => (Z_iload_n (dX3_lossOf 22) rfl (Z_aload_n (dX3_lossOf 23) rfl (Z_gRC (r := (some 13)) (dX3_lossOf 24) lk_X3_48 sC10 rfl (hR 20) (Z_iload (dX3_lossOf 25) rfl (Z_ilC (x := (iv 13 ((iv 31 ((x6).toNat)).toNat))) (dX3_lossOf 26) sC13 ((h.2 c2).2.2.2.2 c8).1 rfl (Z_iload (dX3_lossOf 27) rfl (Z_imul (dX3_lossOf 28) ((h.2 c2).2.2.2.2 c8).2.1 (Z_iadd (dX3_lossOf 29) ((h.2 c2).2.2.2.2 c8).2.2.1 (Z_istore_n (dX3_lossOf 30) (Nat.le_of_ble_eq_true rfl) rfl (Z_iload (dX3_lossOf 31) rfl (Z_aload_n (dX3_lossOf 32) rfl (Z_gRC (r := (some 12)) (dX3_lossOf 33) lk_X3_51 sC10 rfl (hR 19) (Z_iload (dX3_lossOf 34) rfl (Z_ilC (x := (iv 12 ((iv 31 ((x6).toNat)).toNat))) (dX3_lossOf 35) sC12 ((h.2 c2).2.2.2.2 c8).2.2.2.1 rfl (Z_iadd (dX3_lossOf 36) ((h.2 c2).2.2.2.2 c8).2.2.2.2.1 (Z_istore (dX3_lossOf 37) (Nat.le_of_ble_eq_true rfl) rfl (Z_goto (dX3_lossOf 38) rfl (Z_iinc (dX3_lossOf 55) rfl (Nat.le_of_ble_eq_true rfl) ((h.2 c2).2.2.2.2 c8).2.2.2.2.2.1 rfl (Z_goto (dX3_lossOf 56) rfl (Z.fg (L' := [vr (some 30), vr (some 10), vi x2, vi (x3 + ((iv 13 ((iv 31 ((x6).toNat)).toNat)) * x4)), vi (x4 + (iv 12 ((iv 31 ((x6).toNat)).toNat))), vi x5, vi (x6 + 1), vu]) (L := [vr (some 30), vr (some 10), vi x2, vi (x3 + ((iv 13 ((iv 31 ((x6).toNat)).toNat)) * x4)), vi (x4 + (iv 12 ((iv 31 ((x6).toNat)).toNat))), vi x5, vi (x6 + 1), vi (iv 31 ((x6).toNat))]) ⟨Or.inl rfl, ⟨Or.inl rfl, ⟨Or.inl rfl, ⟨Or.inl rfl, ⟨Or.inl rfl, ⟨Or.inl rfl, ⟨Or.inl rfl, ⟨Or.inr rfl, trivial⟩⟩⟩⟩⟩⟩⟩⟩ ((h.2 c2).2.2.2.2 c8).2.2.2.2.2.2))))))))))))))))))))))))))))))))))))))
def lenL (l : Int → Int) : List Int → Int
  | [] => 0
  | e :: es => lenL l es + l e
def losL (h l : Int → Int) : List Int → Int
  | [] => 0
  | e :: es => losL h l es + h e * lenL l es
theorem lenL_r {h l : Int → Int} : ∀ L : List Int, (∀ x ∈ L, (0 ≤ h x ∧ h x ≤ 9) ∧ (1 ≤ l x ∧ l x ≤ 60)) → L.length ≤ 10 → (0 ≤ lenL l L ∧ lenL l L ≤ 60 * L.length) ∧ (0 ≤ losL h l L ∧ losL h l L ≤ 5400 * L.length)
  | [], _, _ => by simp [lenL, losL]
  | e :: es, hx, hl => by
    rw [List.length_cons] at *
    have ih := lenL_r es (fun x q => hx x (List.mem_cons_of_mem _ q)) (by omega)
    have he := hx e (by simp)
    unfold lenL losL
    have m1 : 0 ≤ h e * lenL l es := Int.mul_nonneg he.1.1 ih.1.1
    have m2 : h e * lenL l es ≤ 9 * 600 := Int.mul_le_mul he.1.2 (by omega) ih.1.1 (by omega)
    omega
theorem zand1 (x : Int) : zand x 1 = 0 ∨ zand x 1 = 1 := by
  unfold zand
  have key : ∀ a : BitVec 32, (a &&& 1#32).toInt = 0 ∨ (a &&& 1#32).toInt = 1 := by
    intro a
    rcases BitVec.eq_zero_or_eq_one (a.extractLsb' 0 1) with q | q
    · left
      have : a &&& 1#32 = 0#32 := by
        have := congrArg BitVec.toNat q
        simp [BitVec.extractLsb'] at this
        apply BitVec.eq_of_toNat_eq
        simp [BitVec.toNat_and]
        omega
      rw [this]; rfl
    · right
      have : a &&& 1#32 = 1#32 := by
        have := congrArg BitVec.toNat q
        simp [BitVec.extractLsb'] at this
        apply BitVec.eq_of_toNat_eq
        simp [BitVec.toNat_and]
        omega
      rw [this]; rfl
  exact key _
theorem sdIn_01 (n code s : Int) : sdIn n code s = 0 ∨ sdIn n code s = 1 := zand1 _
def pS (n code side : Int) : Int → Bool := fun s => decide (sdIn n code s = side)
def lossF (h l : Int → Int) (most : Int) (n : Nat) (code : Int) : Int := if most < lenL l (srt (ahd h l) (pS n code 0) n) ∨ most < lenL l (srt (ahd h l) (pS n code 1) n) then -1 else losL h l (srt (ahd h l) (pS n code 0) n) + losL h l (srt (ahd h l) (pS n code 1) n)
theorem lossF_r {h l : Int → Int} {most : Int} {n : Nat} {code : Int} (hn : n ≤ 10) (hx : ∀ x : Int, 0 ≤ x → x < n → (0 ≤ h x ∧ h x ≤ 9) ∧ (1 ≤ l x ∧ l x ≤ 60)) : lossF h l most n code = -1 ∨ (0 ≤ lossF h l most n code ∧ lossF h l most n code ≤ 108000) := by
  unfold lossF
  have q : ∀ p, (0 ≤ lenL l (srt (ahd h l) p n) ∧ lenL l (srt (ahd h l) p n) ≤ 600) ∧ (0 ≤ losL h l (srt (ahd h l) p n) ∧ losL h l (srt (ahd h l) p n) ≤ 54000) := by
    intro p
    have le := srt_len (A := ahd h l) (p := p) n
    have := lenL_r (h := h) (l := l) (srt (ahd h l) p n) (fun x m => by have := ((srt_mem _).mp m).1; exact hx x this.1 this.2) (by omega)
    omega
  have q0 := q (pS n code 0)
  have q1 := q (pS n code 1)
  split
  · exact Or.inl rfl
  · right; omega
theorem rl_s {f : Int → Int} {j : Int} (h : 0 ≤ j) : rl f (j + 1).toNat = f j :: rl f j.toNat := by
  rw [show (j + 1).toNat = j.toNat + 1 by omega]
  show f (j.toNat : Nat) :: rl f j.toNat = _
  rw [show ((j.toNat : Nat) : Int) = j by omega]
theorem C_lossOf {G : ZG} {d : Nat} {iv : Nat → Nat → Int} {K : Option AV → AH → Prop} {rv : Nat → Nat → Option Nat} {x2 : Int} (hR : RC rv) (hn : 0 ≤ iv 30 3 ∧ iv 30 3 ≤ 10) (hs : ∀ s, 0 ≤ s → s < iv 30 3 → okSg iv s) (hq : rl (fun i => iv 31 i.toNat) (iv 30 3).toNat = srt (ahC iv) (fun _ => true) (iv 30 3).toNat) (k : K (some (vi (lossF (fun i => iv 13 i.toNat) (fun i => iv 12 i.toNat) (iv 30 4) (iv 30 3).toNat x2))) (mkC iv rv)) : Z G mX3_lossOf (d + 1) 0 0 0 [vr (some 30), vr (some 10), vi x2, vu, vu, vu, vu, vu] [] (mkC iv rv) K := by
  have mem : ∀ i, 0 ≤ i → i < iv 30 3 → 0 ≤ iv 31 i.toNat ∧ iv 31 i.toNat < iv 30 3 := by
    intro i a b
    have q : iv 31 i.toNat ∈ rl (fun i => iv 31 i.toNat) (iv 30 3).toNat := (rl_mem _).mpr ⟨i, a, by omega, rfl⟩
    rw [hq] at q
    have := ((srt_mem _).mp q).1
    omega
  have en : (((iv 30 3).toNat : Nat) : Int) = iv 30 3 := by omega
  apply sX3_lossOf_0 hR
  refine lp_up (σ := Int × Int × Int) (P := fun j s => Z G mX3_lossOf (d + 1) 0 0 11 [vr (some 30), vr (some 10), vi x2, vi s.1, vi s.2.1, vi s.2.2, vi j, vu] [] (mkC iv rv) K) (iv 30 3) (fun j s => 0 ≤ j ∧ s.1 = losL (fun i => iv 13 i.toNat) (fun i => iv 12 i.toNat) ((rl (fun i => iv 31 i.toNat) j.toNat).filter (pS (iv 30 3) x2 0)) + losL (fun i => iv 13 i.toNat) (fun i => iv 12 i.toNat) ((rl (fun i => iv 31 i.toNat) j.toNat).filter (pS (iv 30 3) x2 1)) ∧ s.2.1 = lenL (fun i => iv 12 i.toNat) ((rl (fun i => iv 31 i.toNat) j.toNat).filter (pS (iv 30 3) x2 0)) ∧ s.2.2 = lenL (fun i => iv 12 i.toNat) ((rl (fun i => iv 31 i.toNat) j.toNat).filter (pS (iv 30 3) x2 1)) ∧ (0 ≤ s.1 ∧ s.1 ≤ 5400 * j) ∧ (0 ≤ s.2.1 ∧ s.2.1 ≤ 60 * j) ∧ (0 ≤ s.2.2 ∧ s.2.2 ≤ 60 * j)) ?_ ?_ 0 (0, 0, 0) (by omega) ⟨by omega, rfl, rfl, rfl, by simp, by simp, by simp⟩
  · rintro ⟨a, b, c⟩ ⟨-, e1, e2, e3, -⟩
    apply sX3_lossOf_11 hR
    dsimp only at *
    rw [hq, srt_filter ahd_r ahd_t ahd_a, srt_filter ahd_r ahd_t ahd_a] at e1
    rw [hq, srt_filter ahd_r ahd_t ahd_a] at e2 e3
    unfold lossF at k
    rw [en, ← e1, ← e2, ← e3] at k
    refine ⟨fun _ => ⟨fun h => ?_, fun h => ⟨fun h' => ?_, fun h' => ?_⟩⟩, fun h => by omega⟩
    · rw [if_pos (Or.inl h)] at k; exact k
    · rw [if_neg (by omega)] at k; exact k
    · rw [if_pos (Or.inr h')] at k; exact k
  · rintro j ⟨a, b, c⟩ hj ⟨j0, e1, e2, e3, b1, b2, b3⟩ ih
    apply sX3_lossOf_11 hR
    dsimp only at *
    have m := mem j j0 hj
    obtain ⟨o1, o2, o3⟩ := hs _ m.1 m.2
    have r1 : rl (fun i => iv 31 i.toNat) (j + 1).toNat = iv 31 j.toNat :: rl (fun i => iv 31 i.toNat) j.toNat := rl_s j0
    refine ⟨fun h => by omega, fun _ => ⟨by omega, hn, by omega, fun n => ?_, fun z => ?_⟩⟩
    · have o := (sdIn_01 (iv 30 3) x2 (iv 31 j.toNat)).resolve_left n
      have m1 : 0 ≤ iv 13 (iv 31 j.toNat).toNat * c := Int.mul_nonneg o3.1 b3.1
      have m2 : iv 13 (iv 31 j.toNat).toNat * c ≤ 9 * 600 := Int.mul_le_mul o3.2 (by omega) b3.1 (by omega)
      refine ⟨by omega, by omega, by omega, by omega, by omega, by omega, ih (_, _, _) ⟨by omega, ?_⟩⟩
      rw [r1, List.filter_cons_of_neg (show ¬ pS (iv 30 3) x2 0 (iv 31 j.toNat) = true by unfold pS; simp [o]), List.filter_cons_of_pos (show pS (iv 30 3) x2 1 (iv 31 j.toNat) = true by unfold pS; simp [o])]
      dsimp only [losL, lenL]
      rw [← e3]
      omega
    · have m1 : 0 ≤ iv 13 (iv 31 j.toNat).toNat * b := Int.mul_nonneg o3.1 b2.1
      have m2 : iv 13 (iv 31 j.toNat).toNat * b ≤ 9 * 600 := Int.mul_le_mul o3.2 (by omega) b2.1 (by omega)
      refine ⟨by omega, by omega, by omega, by omega, by omega, by omega, ih (_, _, _) ⟨by omega, ?_⟩⟩
      rw [r1, List.filter_cons_of_neg (show ¬ pS (iv 30 3) x2 1 (iv 31 j.toNat) = true by unfold pS; simp [z]), List.filter_cons_of_pos (show pS (iv 30 3) x2 0 (iv 31 j.toNat) = true by unfold pS; simp [z])]
      dsimp only [losL, lenL]
      rw [← e2]
      omega
set_option maxRecDepth 20000 in
theorem sX3_chooseSides_0 {G : ZG} {d : Nat} {iv : Nat → Nat → Int} {K : Option AV → AH → Prop} {rv : Nat → Nat → Option Nat} (hR : RC rv) (h : Z G mX3_chooseSides (d + 2) 0 0 12 [vr (some 30), vr (some 10), vi 0, vu] [] (mkC (iu (iu iv 30 2 (-1)) 30 1 0) rv) K) : Z G mX3_chooseSides (d + 2) 0 0 0 [vr (some 30), vr (some 10), vu, vu] [] (mkC iv rv) K := (Z_aload_n (dX3_chooseSides 0) rfl (Z_iconst (dX3_chooseSides 1) ⟨by decide, by decide⟩ (Z_putIC (dX3_chooseSides 2) lk_X3_41 sC30 rfl (Or.inl rfl) (Z_aload_n (dX3_chooseSides 3) rfl (Z_iconst (dX3_chooseSides 4) ⟨by decide, by decide⟩ (Z_putIC (dX3_chooseSides 5) lk_X3_19 sC30 rfl (Or.inl rfl) (Z_iconst (dX3_chooseSides 6) ⟨by decide, by decide⟩ (Z_istore_n (dX3_chooseSides 7) (Nat.le_of_ble_eq_true rfl) rfl h))))))))
set_option maxRecDepth 20000 in
theorem sX3_chooseSides_12 {G : ZG} {d : Nat} {iv : Nat → Nat → Int} {K : Option AV → AH → Prop} {rv : Nat → Nat → Option Nat} {x2 : Int} (hR : RC rv) (h : ((zshl 1 (iv 30 3)) ≤ x2 → (K none (mkC iv rv))) ∧ (x2 < (zshl 1 (iv 30 3)) → ((0 ≤ iv 30 3 ∧ iv 30 3 ≤ 10) ∧ ((∀ s, 0 ≤ s → s < iv 30 3 → okSg iv s) ∧ ((rl (fun i => iv 31 i.toNat) (iv 30 3).toNat = srt (ahC iv) (fun _ => true) (iv 30 3).toNat) ∧ (((lossF (fun i => iv 13 i.toNat) (fun i => iv 12 i.toNat) (iv 30 4) (iv 30 3).toNat x2) = (-1) → ((-2147483648 ≤ (x2 + 1) ∧ (x2 + 1) ≤ 2147483647) ∧ (Z G mX3_chooseSides (d + 2) 0 0 12 [vr (some 30), vr (some 10), vi (x2 + 1), vu] [] (mkC iv rv) K))) ∧ (¬ (lossF (fun i => iv 13 i.toNat) (fun i => iv 12 i.toNat) (iv 30 4) (iv 30 3).toNat x2) = (-1) → (((iv 30 2) = (-1) → ((-2147483648 ≤ (x2 + 1) ∧ (x2 + 1) ≤ 2147483647) ∧ (Z G mX3_chooseSides (d + 2) 0 0 12 [vr (some 30), vr (some 10), vi (x2 + 1), vu] [] (mkC (iu (iu iv 30 2 (lossF (fun i => iv 13 i.toNat) (fun i => iv 12 i.toNat) (iv 30 4) (iv 30 3).toNat x2)) 30 1 x2) rv) K))) ∧ (¬ (iv 30 2) = (-1) → (((iv 30 2) ≤ (lossF (fun i => iv 13 i.toNat) (fun i => iv 12 i.toNat) (iv 30 4) (iv 30 3).toNat x2) → ((-2147483648 ≤ (x2 + 1) ∧ (x2 + 1) ≤ 2147483647) ∧ (Z G mX3_chooseSides (d + 2) 0 0 12 [vr (some 30), vr (some 10), vi (x2 + 1), vu] [] (mkC iv rv) K))) ∧ ((lossF (fun i => iv 13 i.toNat) (fun i => iv 12 i.toNat) (iv 30 4) (iv 30 3).toNat x2) < (iv 30 2) → ((-2147483648 ≤ (x2 + 1) ∧ (x2 + 1) ≤ 2147483647) ∧ (Z G mX3_chooseSides (d + 2) 0 0 12 [vr (some 30), vr (some 10), vi (x2 + 1), vu] [] (mkC (iu (iu iv 30 2 (lossF (fun i => iv 13 i.toNat) (fun i => iv 12 i.toNat) (iv 30 4) (iv 30 3).toNat x2)) 30 1 x2) rv) K))))))))))))) : Z G mX3_chooseSides (d + 2) 0 0 12 [vr (some 30), vr (some 10), vi x2, vu] [] (mkC iv rv) K := (Z_iload_n (dX3_chooseSides 8) rfl (Z_iconst (dX3_chooseSides 9) ⟨by decide, by decide⟩ (Z_aload_n (dX3_chooseSides 10) rfl (Z_gIC (x := (iv 30 3)) (dX3_chooseSides 11) lk_X3_15 sC30 (Or.inl rfl) rfl (Z_ishl (dX3_chooseSides 12) (Z_icmp_ge (dX3_chooseSides 13) rfl (fun c1 => (Z_return (dX3_chooseSides 38) rfl (h.1 c1))) (fun c2 => (Z_aload_n (dX3_chooseSides 14) rfl (Z_aload_n (dX3_chooseSides 15) rfl (Z_iload_n (dX3_chooseSides 16) rfl (Z_cVC (As := [vr (some 10), vi x2]) (S := []) (dX3_chooseSides 17) lk_X3_54 sC30 (by decide) rfl rfl (Nat.le_of_ble_eq_true rfl) (Nat.le_of_ble_eq_true rfl) (C_lossOf hR (h.2 c2).1 (h.2 c2).2.1 (h.2 c2).2.2.1 ((Z_istore_n (dX3_chooseSides 18) (Nat.le_of_ble_eq_true rfl) rfl (Z_iload_n (dX3_chooseSides 19) rfl (Z_iconst (dX3_chooseSides 20) ⟨by decide, by decide⟩ (Z_icmp_eq (dX3_chooseSides 21) rfl (fun c3 => (Z_iinc (dX3_chooseSides 36) rfl (Nat.le_of_ble_eq_true rfl) ((h.2 c2).2.2.2.1 c3).1 rfl (Z_goto (dX3_chooseSides 37) rfl (Z.fg (L' := [vr (some 30), vr (some 10), vi (x2 + 1), vu]) (L := [vr (some 30), vr (some 10), vi (x2 + 1), vi (lossF (fun i => iv 13 i.toNat) (fun i => iv 12 i.toNat) (iv 30 4) (iv 30 3).toNat x2)]) ⟨Or.inl rfl, ⟨Or.inl rfl, ⟨Or.inl rfl, ⟨Or.inr rfl, trivial⟩⟩⟩⟩ ((h.2 c2).2.2.2.1 c3).2)))) (fun c4 => (Z_aload_n (dX3_chooseSides 22) rfl (Z_gIC (x := (iv 30 2)) (dX3_chooseSides 23) lk_X3_41 sC30 (Or.inl rfl) rfl (Z_iconst (dX3_chooseSides 24) ⟨by decide, by decide⟩ (Z_icmp_eq (dX3_chooseSides 25) rfl (fun c5 => (Z_aload_n (dX3_chooseSides 30) rfl (Z_iload_n (dX3_chooseSides 31) rfl (Z_putIC (dX3_chooseSides 32) lk_X3_41 sC30 rfl (Or.inl rfl) (Z_aload_n (dX3_chooseSides 33) rfl (Z_iload_n (dX3_chooseSides 34) rfl (Z_putIC (dX3_chooseSides 35) lk_X3_19 sC30 rfl (Or.inl rfl) (Z_iinc (dX3_chooseSides 36) rfl (Nat.le_of_ble_eq_true rfl) (((h.2 c2).2.2.2.2 c4).1 c5).1 rfl (Z_goto (dX3_chooseSides 37) rfl (Z.fg (L' := [vr (some 30), vr (some 10), vi (x2 + 1), vu]) (L := [vr (some 30), vr (some 10), vi (x2 + 1), vi (lossF (fun i => iv 13 i.toNat) (fun i => iv 12 i.toNat) (iv 30 4) (iv 30 3).toNat x2)]) ⟨Or.inl rfl, ⟨Or.inl rfl, ⟨Or.inl rfl, ⟨Or.inr rfl, trivial⟩⟩⟩⟩ (((h.2 c2).2.2.2.2 c4).1 c5).2)))))))))) (fun c6 => (Z_iload_n (dX3_chooseSides 26) rfl (Z_aload_n (dX3_chooseSides 27) rfl (Z_gIC (x := (iv 30 2)) (dX3_chooseSides 28) lk_X3_41 sC30 (Or.inl rfl) rfl (Z_icmp_ge (dX3_chooseSides 29) rfl (fun c7 => (Z_iinc (dX3_chooseSides 36) rfl (Nat.le_of_ble_eq_true rfl) ((((h.2 c2).2.2.2.2 c4).2 c6).1 c7).1 rfl (Z_goto (dX3_chooseSides 37) rfl (Z.fg (L' := [vr (some 30), vr (some 10), vi (x2 + 1), vu]) (L := [vr (some 30), vr (some 10), vi (x2 + 1), vi (lossF (fun i => iv 13 i.toNat) (fun i => iv 12 i.toNat) (iv 30 4) (iv 30 3).toNat x2)]) ⟨Or.inl rfl, ⟨Or.inl rfl, ⟨Or.inl rfl, ⟨Or.inr rfl, trivial⟩⟩⟩⟩ ((((h.2 c2).2.2.2.2 c4).2 c6).1 c7).2)))) (fun c8 => (Z_aload_n (dX3_chooseSides 30) rfl (Z_iload_n (dX3_chooseSides 31) rfl (Z_putIC (dX3_chooseSides 32) lk_X3_41 sC30 rfl (Or.inl rfl) (Z_aload_n (dX3_chooseSides 33) rfl (Z_iload_n (dX3_chooseSides 34) rfl (Z_putIC (dX3_chooseSides 35) lk_X3_19 sC30 rfl (Or.inl rfl) (Z_iinc (dX3_chooseSides 36) rfl (Nat.le_of_ble_eq_true rfl) ((((h.2 c2).2.2.2.2 c4).2 c6).2 c8).1 rfl (Z_goto (dX3_chooseSides 37) rfl (Z.fg (L' := [vr (some 30), vr (some 10), vi (x2 + 1), vu]) (L := [vr (some 30), vr (some 10), vi (x2 + 1), vi (lossF (fun i => iv 13 i.toNat) (fun i => iv 12 i.toNat) (iv 30 4) (iv 30 3).toNat x2)]) ⟨Or.inl rfl, ⟨Or.inl rfl, ⟨Or.inl rfl, ⟨Or.inr rfl, trivial⟩⟩⟩⟩ ((((h.2 c2).2.2.2.2 c4).2 c6).2 c8).2)))))))))))))))))))))))))))))))))))))
set_option maxRecDepth 20000 in
theorem sX3_songOn_0 {G : ZG} {d : Nat} {iv : Nat → Nat → Int} {K : Option AV → AH → Prop} {rv : Nat → Nat → Option Nat} {x1 x2 : Int} (hR : RC rv) (h : Z G mX3_songOn (d + 1) 0 0 5 [vr (some 30), vi x1, vi x2, vi 0, vi 0] [] (mkC iv rv) K) : Z G mX3_songOn (d + 1) 0 0 0 [vr (some 30), vi x1, vi x2, vu, vu] [] (mkC iv rv) K := (Z_iconst (dX3_songOn 0) ⟨by decide, by decide⟩ (Z_istore_n (dX3_songOn 1) (Nat.le_of_ble_eq_true rfl) rfl (Z_iconst (dX3_songOn 2) ⟨by decide, by decide⟩ (Z_istore (dX3_songOn 3) (Nat.le_of_ble_eq_true rfl) rfl h))))
set_option maxRecDepth 20000 in
theorem sX3_songOn_5 {G : ZG} {d : Nat} {iv : Nat → Nat → Int} {K : Option AV → AH → Prop} {rv : Nat → Nat → Option Nat} {x1 x2 x3 x4 : Int} (hR : RC rv) (h : ((iv 30 3) ≤ x4 → (K (some (vi (-1))) (mkC iv rv))) ∧ (x4 < (iv 30 3) → ((0 ≤ x4 ∧ x4 < (10 : Nat)) ∧ ((0 ≤ iv 30 3 ∧ iv 30 3 ≤ 10) ∧ ((0 ≤ (iv 31 ((x4).toNat)) ∧ (iv 31 ((x4).toNat)) < 10) ∧ ((¬ (sdIn (iv 30 3) (iv 30 1) (iv 31 ((x4).toNat))) = x1 → ((-2147483648 ≤ (x4 + 1) ∧ (x4 + 1) ≤ 2147483647) ∧ (Z G mX3_songOn (d + 1) 0 0 5 [vr (some 30), vi x1, vi x2, vi x3, vi (x4 + 1)] [] (mkC iv rv) K))) ∧ ((sdIn (iv 30 3) (iv 30 1) (iv 31 ((x4).toNat))) = x1 → ((¬ x3 = x2 → ((-2147483648 ≤ (x3 + 1) ∧ (x3 + 1) ≤ 2147483647) ∧ ((-2147483648 ≤ (x4 + 1) ∧ (x4 + 1) ≤ 2147483647) ∧ (Z G mX3_songOn (d + 1) 0 0 5 [vr (some 30), vi x1, vi x2, vi (x3 + 1), vi (x4 + 1)] [] (mkC iv rv) K)))) ∧ (x3 = x2 → ((0 ≤ x4 ∧ x4 < (10 : Nat)) ∧ (K (some (vi (iv 31 ((x4).toNat)))) (mkC iv rv)))))))))))) : Z G mX3_songOn (d + 1) 0 0 5 [vr (some 30), vi x1, vi x2, vi x3, vi x4] [] (mkC iv rv) K := (Z_iload (dX3_songOn 4) rfl (Z_aload_n (dX3_songOn 5) rfl (Z_gIC (x := (iv 30 3)) (dX3_songOn 6) lk_X3_15 sC30 (Or.inl rfl) rfl (Z_icmp_ge (dX3_songOn 7) rfl (fun c1 => (Z_iconst (dX3_songOn 29) ⟨by decide, by decide⟩ (Z_ireturn (dX3_songOn 30) rfl (h.1 c1)))) (fun c2 => (Z_aload_n (dX3_songOn 8) rfl (Z_aload_n (dX3_songOn 9) rfl (Z_gIC (x := (iv 30 1)) (dX3_songOn 10) lk_X3_19 sC30 (Or.inl rfl) rfl (Z_aload_n (dX3_songOn 11) rfl (Z_gRC (r := (some 31)) (dX3_songOn 12) lk_X3_9 sC30 rfl (hR 39) (Z_iload (dX3_songOn 13) rfl (Z_ilC (x := (iv 31 ((x4).toNat))) (dX3_songOn 14) sC31 (h.2 c2).1 rfl (Z_cVC (As := [vi (iv 30 1), vi (iv 31 ((x4).toNat))]) (S := []) (dX3_songOn 15) lk_X3_22 sC30 (by decide) rfl rfl (Nat.le_of_ble_eq_true rfl) (Nat.le_of_ble_eq_true rfl) (C_sideIn hR (h.2 c2).2.1 (h.2 c2).2.2.1 ((Z_iload_n (dX3_songOn 16) rfl (Z_icmp_ne (dX3_songOn 17) rfl (fun c3 => (Z_iinc (dX3_songOn 27) rfl (Nat.le_of_ble_eq_true rfl) ((h.2 c2).2.2.2.1 c3).1 rfl (Z_goto (dX3_songOn 28) rfl ((h.2 c2).2.2.2.1 c3).2))) (fun c4 => (Z_iload_n (dX3_songOn 18) rfl (Z_iload_n (dX3_songOn 19) rfl (Z_icmp_ne (dX3_songOn 20) rfl (fun c5 => (Z_iinc (dX3_songOn 26) rfl (Nat.le_of_ble_eq_true rfl) (((h.2 c2).2.2.2.2 c4).1 c5).1 rfl (Z_iinc (dX3_songOn 27) rfl (Nat.le_of_ble_eq_true rfl) (((h.2 c2).2.2.2.2 c4).1 c5).2.1 rfl (Z_goto (dX3_songOn 28) rfl (((h.2 c2).2.2.2.2 c4).1 c5).2.2)))) (fun c6 => (Z_aload_n (dX3_songOn 21) rfl (Z_gRC (r := (some 31)) (dX3_songOn 22) lk_X3_9 sC30 rfl (hR 39) (Z_iload (dX3_songOn 23) rfl (Z_ilC (x := (iv 31 ((x4).toNat))) (dX3_songOn 24) sC31 (((h.2 c2).2.2.2.2 c4).2 c6).1 rfl (Z_ireturn (dX3_songOn 25) rfl (((h.2 c2).2.2.2.2 c4).2 c6).2)))))))))))))))))))))))))))

