/-! ===== sides: places in the class ===== -/
/-- what is asked of a side in the class -/
def okSd (iv : Nat → Nat → Int) (o : Nat) : Prop := isSd o ∧ (0 ≤ iv o 4 ∧ iv o 4 ≤ 400) ∧ ((1 ≤ iv 14 0 ∧ iv 14 0 ≤ 20) ∧ (1 ≤ iv 14 1 ∧ iv 14 1 ≤ 20)) ∧ (∀ k : Int, 0 ≤ k → k < iv o 4 → 0 ≤ iv (o + 1) k.toNat ∧ iv (o + 1) k.toNat ≤ 40) ∧ ((0 ≤ iv o 6 ∧ iv o 6 ≤ 100000000) ∧ (0 ≤ iv 14 2 ∧ iv 14 2 ≤ 100000000))
def nearC (iv : Nat → Nat → Int) (o : Nat) (cap : Int) : Int := ffirst (fun k => 8 * iv 14 1 - iv 14 0 < min (iv (o + 1) k.toNat) cap + min (iv (o + 1) (k - 8).toNat) cap) 8 (iv o 4 - 8).toNat
set_option maxRecDepth 20000 in
theorem sX7_firstTooNear_0 {G : ZG} {d : Nat} {iv : Nat → Nat → Int} {K : Option AV → AH → Prop} {rv : Nat → Nat → Option Nat} {o0 : Nat} {x1 : Int} (hR : RC rv) (h_o0 : isSd o0) (h : (-2147483648 ≤ (8 * (iv 14 1)) ∧ (8 * (iv 14 1)) ≤ 2147483647) ∧ ((-2147483648 ≤ ((8 * (iv 14 1)) - (iv 14 0)) ∧ ((8 * (iv 14 1)) - (iv 14 0)) ≤ 2147483647) ∧ (Z G mX7_firstTooNear d 0 0 22 [vr (some o0), vi x1, vi ((8 * (iv 14 1)) - (iv 14 0)), vi 8] [] (mkC iv rv) K))) : Z G mX7_firstTooNear d 0 0 0 [vr (some o0), vi x1, vu, vu] [] (mkC iv rv) K := (Z_bipush (dX7_firstTooNear 0) ⟨by decide, by decide⟩ (Z_aload_n (dX7_firstTooNear 1) rfl (Z_gRC (r := (some 14)) (dX7_firstTooNear 2) lk_X7_9 (Sd_sh h_o0) rfl (Sd_r0 hR h_o0) (Z_gIC (x := (iv 14 1)) (dX7_firstTooNear 3) lk_X7_57 sC14 (Or.inl rfl) rfl (Z_imul (dX7_firstTooNear 4) h.1 (Z_aload_n (dX7_firstTooNear 5) rfl (Z_gRC (r := (some 14)) (dX7_firstTooNear 6) lk_X7_9 (Sd_sh h_o0) rfl (Sd_r0 hR h_o0) (Z_gIC (x := (iv 14 0)) (dX7_firstTooNear 7) lk_X7_62 sC14 (Or.inl rfl) rfl (Z_isub (dX7_firstTooNear 8) h.2.1 (Z_istore_n (dX7_firstTooNear 9) (Nat.le_of_ble_eq_true rfl) rfl (Z_bipush (dX7_firstTooNear 10) ⟨by decide, by decide⟩ (Z_istore_n (dX7_firstTooNear 11) (Nat.le_of_ble_eq_true rfl) rfl h.2.2))))))))))))
set_option maxRecDepth 20000 in
theorem sX7_firstTooNear_22 {G : ZG} {d : Nat} {iv : Nat → Nat → Int} {K : Option AV → AH → Prop} {rv : Nat → Nat → Option Nat} {o0 : Nat} {x1 x2 x3 : Int} (hR : RC rv) (h_o0 : isSd o0) (h : ((iv o0 4) ≤ x3 → (K (some (vi (-1))) (mkC iv rv))) ∧ (x3 < (iv o0 4) → ((0 ≤ x3 ∧ x3 < (400 : Nat)) ∧ ((-2147483648 ≤ (x3 - 8) ∧ (x3 - 8) ≤ 2147483647) ∧ ((0 ≤ (x3 - 8) ∧ (x3 - 8) < (400 : Nat)) ∧ ((-2147483648 ≤ ((min (iv (o0 + 1) ((x3).toNat)) x1) + (min (iv (o0 + 1) ((x3 - 8).toNat)) x1)) ∧ ((min (iv (o0 + 1) ((x3).toNat)) x1) + (min (iv (o0 + 1) ((x3 - 8).toNat)) x1)) ≤ 2147483647) ∧ ((((min (iv (o0 + 1) ((x3).toNat)) x1) + (min (iv (o0 + 1) ((x3 - 8).toNat)) x1)) ≤ x2 → ((-2147483648 ≤ (x3 + 1) ∧ (x3 + 1) ≤ 2147483647) ∧ (Z G mX7_firstTooNear d 0 0 22 [vr (some o0), vi x1, vi x2, vi (x3 + 1)] [] (mkC iv rv) K))) ∧ (x2 < ((min (iv (o0 + 1) ((x3).toNat)) x1) + (min (iv (o0 + 1) ((x3 - 8).toNat)) x1)) → (K (some (vi x3)) (mkC iv rv)))))))))) : Z G mX7_firstTooNear d 0 0 22 [vr (some o0), vi x1, vi x2, vi x3] [] (mkC iv rv) K := (Z_iload_n (dX7_firstTooNear 12) rfl (Z_aload_n (dX7_firstTooNear 13) rfl (Z_gIC (x := (iv o0 4)) (dX7_firstTooNear 14) lk_X7_32 (Sd_sh h_o0) (Or.inl rfl) rfl (Z_icmp_ge (dX7_firstTooNear 15) rfl (fun c1 => (Z_iconst (dX7_firstTooNear 37) ⟨by decide, by decide⟩ (Z_ireturn (dX7_firstTooNear 38) rfl (h.1 c1)))) (fun c2 => (Z_aload_n (dX7_firstTooNear 16) rfl (Z_gRC (r := (some (o0 + 1))) (dX7_firstTooNear 17) lk_X7_15 (Sd_sh h_o0) rfl (Sd_r1 hR h_o0) (Z_iload_n (dX7_firstTooNear 18) rfl (Z_ilC (x := (iv (o0 + 1) ((x3).toNat))) (dX7_firstTooNear 19) (Sd_a1 h_o0) (h.2 c2).1 rfl (Z_iload_n (dX7_firstTooNear 20) rfl (Z_min (dX7_firstTooNear 21) lk_X7_65 mt_min_s mt_ini mt_min_c (Nat.le_of_ble_eq_true rfl) (Z_aload_n (dX7_firstTooNear 22) rfl (Z_gRC (r := (some (o0 + 1))) (dX7_firstTooNear 23) lk_X7_15 (Sd_sh h_o0) rfl (Sd_r1 hR h_o0) (Z_iload_n (dX7_firstTooNear 24) rfl (Z_bipush (dX7_firstTooNear 25) ⟨by decide, by decide⟩ (Z_isub (dX7_firstTooNear 26) (h.2 c2).2.1 (Z_ilC (x := (iv (o0 + 1) ((x3 - 8).toNat))) (dX7_firstTooNear 27) (Sd_a1 h_o0) (h.2 c2).2.2.1 rfl (Z_iload_n (dX7_firstTooNear 28) rfl (Z_min (dX7_firstTooNear 29) lk_X7_65 mt_min_s mt_ini mt_min_c (Nat.le_of_ble_eq_true rfl) (Z_iadd (dX7_firstTooNear 30) (h.2 c2).2.2.2.1 (Z_iload_n (dX7_firstTooNear 31) rfl (Z_icmp_le (dX7_firstTooNear 32) rfl (fun c3 => (Z_iinc (dX7_firstTooNear 35) rfl (Nat.le_of_ble_eq_true rfl) ((h.2 c2).2.2.2.2.1 c3).1 rfl (Z_goto (dX7_firstTooNear 36) rfl ((h.2 c2).2.2.2.2.1 c3).2))) (fun c4 => (Z_iload_n (dX7_firstTooNear 33) rfl (Z_ireturn (dX7_firstTooNear 34) rfl ((h.2 c2).2.2.2.2.2 c4))))))))))))))))))))))))))
theorem C_firstTooNear {G : ZG} {d : Nat} {iv : Nat → Nat → Int} {K : Option AV → AH → Prop} {rv : Nat → Nat → Option Nat} {o0 : Nat} {x1 : Int} (hR : RC rv) (h0 : okSd iv o0) (hx : 0 ≤ x1 ∧ x1 ≤ 40) (k : K (some (vi (nearC iv o0 x1))) (mkC iv rv)) : Z G mX7_firstTooNear d 0 0 0 [vr (some o0), vi x1, vu, vu] [] (mkC iv rv) K := by
  obtain ⟨h_o0, h2, h3, h4, h5⟩ := h0
  unfold nearC at k
  apply sX7_firstTooNear_0 hR h_o0
  refine ⟨by omega, by omega, ?_⟩
  by_cases hn : iv o0 4 ≤ 8
  · rw [show (iv o0 4 - 8).toNat = 0 by omega] at k
    apply sX7_firstTooNear_22 hR h_o0
    exact ⟨fun _ => k, fun h => by omega⟩
  refine lp_up (P := fun j (_ : Unit) => Z G mX7_firstTooNear d 0 0 22 [vr (some o0), vi x1, vi (8 * iv 14 1 - iv 14 0), vi j] [] (mkC iv rv) K) (iv o0 4) (fun j _ => 8 ≤ j ∧ K (some (vi (ffirst (fun k => 8 * iv 14 1 - iv 14 0 < min (iv (o0 + 1) k.toNat) x1 + min (iv (o0 + 1) (k - 8).toNat) x1) j (iv o0 4 - j).toNat))) (mkC iv rv)) ?_ ?_ 8 () (by omega) ⟨by omega, k⟩
  · rintro - ⟨-, kk⟩
    rw [show (iv o0 4 - iv o0 4).toNat = 0 by omega] at kk
    apply sX7_firstTooNear_22 hR h_o0
    exact ⟨fun _ => kk, fun h => by omega⟩
  · rintro j - hj ⟨hj8, kk⟩ ih
    rw [show (iv o0 4 - j).toNat = (iv o0 4 - (j + 1)).toNat + 1 by omega] at kk
    unfold ffirst at kk
    have a1 := h4 j (by omega) (by omega)
    have a2 := h4 (j - 8) (by omega) (by omega)
    apply sX7_firstTooNear_22 hR h_o0
    refine ⟨fun h => by omega, fun _ => ⟨by omega, by omega, by omega, by omega, fun h => ?_, fun h => ?_⟩⟩
    · rw [if_neg (by omega)] at kk
      exact ⟨by omega, ih () ⟨by omega, kk⟩⟩
    · rw [if_pos (by omega)] at kk
      exact kk
set_option maxRecDepth 20000 in
theorem sX7_leastSoftening_0 {G : ZG} {d : Nat} {iv : Nat → Nat → Int} {K : Option AV → AH → Prop} {rv : Nat → Nat → Option Nat} {o0 : Nat} (hR : RC rv) (h_o0 : isSd o0) (h : Z G mX7_leastSoftening (d + 1) 0 0 2 [vr (some o0), vi 0] [] (mkC iv rv) K) : Z G mX7_leastSoftening (d + 1) 0 0 0 [vr (some o0), vu] [] (mkC iv rv) K := (Z_iconst (dX7_leastSoftening 0) ⟨by decide, by decide⟩ (Z_istore_n (dX7_leastSoftening 1) (Nat.le_of_ble_eq_true rfl) rfl h))
set_option maxRecDepth 20000 in
theorem sX7_leastSoftening_2 {G : ZG} {d : Nat} {iv : Nat → Nat → Int} {K : Option AV → AH → Prop} {rv : Nat → Nat → Option Nat} {o0 : Nat} {x1 : Int} (hR : RC rv) (h_o0 : isSd o0) (h : (40 < x1 → (K (some (vi (-1))) (mkC iv rv))) ∧ (x1 ≤ 40 → ((-2147483648 ≤ (40 - x1) ∧ (40 - x1) ≤ 2147483647) ∧ ((okSd iv o0) ∧ (((0 : Int) ≤ (40 - x1) ∧ (40 - x1) ≤ (40 : Int)) ∧ ((¬ (nearC iv o0 (40 - x1)) = (-1) → ((-2147483648 ≤ (x1 + 1) ∧ (x1 + 1) ≤ 2147483647) ∧ (Z G mX7_leastSoftening (d + 1) 0 0 2 [vr (some o0), vi (x1 + 1)] [] (mkC iv rv) K))) ∧ ((nearC iv o0 (40 - x1)) = (-1) → (K (some (vi x1)) (mkC iv rv))))))))) : Z G mX7_leastSoftening (d + 1) 0 0 2 [vr (some o0), vi x1] [] (mkC iv rv) K := (Z_iload_n (dX7_leastSoftening 2) rfl (Z_bipush (dX7_leastSoftening 3) ⟨by decide, by decide⟩ (Z_icmp_gt (dX7_leastSoftening 4) rfl (fun c1 => (Z_iconst (dX7_leastSoftening 16) ⟨by decide, by decide⟩ (Z_ireturn (dX7_leastSoftening 17) rfl (h.1 c1)))) (fun c2 => (Z_aload_n (dX7_leastSoftening 5) rfl (Z_bipush (dX7_leastSoftening 6) ⟨by decide, by decide⟩ (Z_iload_n (dX7_leastSoftening 7) rfl (Z_isub (dX7_leastSoftening 8) (h.2 c2).1 (Z_cVC (As := [vi (40 - x1)]) (S := []) (dX7_leastSoftening 9) lk_X7_70 (Sd_sh h_o0) (by decide) rfl rfl (Nat.le_of_ble_eq_true rfl) (Nat.le_of_ble_eq_true rfl) (C_firstTooNear hR (h.2 c2).2.1 (h.2 c2).2.2.1 ((Z_iconst (dX7_leastSoftening 10) ⟨by decide, by decide⟩ (Z_icmp_ne (dX7_leastSoftening 11) rfl (fun c3 => (Z_iinc (dX7_leastSoftening 14) rfl (Nat.le_of_ble_eq_true rfl) ((h.2 c2).2.2.2.1 c3).1 rfl (Z_goto (dX7_leastSoftening 15) rfl ((h.2 c2).2.2.2.1 c3).2))) (fun c4 => (Z_iload_n (dX7_leastSoftening 12) rfl (Z_ireturn (dX7_leastSoftening 13) rfl ((h.2 c2).2.2.2.2 c4)))))))))))))))))
def softC (iv : Nat → Nat → Int) (o : Nat) : Int := ffirst (fun s => nearC iv o (40 - s) = -1) 0 41
theorem C_leastSoftening {G : ZG} {d : Nat} {iv : Nat → Nat → Int} {K : Option AV → AH → Prop} {rv : Nat → Nat → Option Nat} {o0 : Nat} (hR : RC rv) (h0 : okSd iv o0) (k : K (some (vi (softC iv o0))) (mkC iv rv)) : Z G mX7_leastSoftening (d + 1) 0 0 0 [vr (some o0), vu] [] (mkC iv rv) K := by
  have h_o0 := h0.1
  apply sX7_leastSoftening_0 hR h_o0
  unfold softC at k
  refine lp_up (P := fun s (_ : Unit) => Z G mX7_leastSoftening (d + 1) 0 0 2 [vr (some o0), vi s] [] (mkC iv rv) K) 41 (fun s _ => 0 ≤ s ∧ K (some (vi (ffirst (fun s => nearC iv o0 (40 - s) = -1) s (41 - s).toNat))) (mkC iv rv)) ?_ ?_ 0 () (by omega) ⟨by omega, by rw [show ((41 : Int) - 0).toNat = 41 from rfl]; exact k⟩
  · rintro - ⟨-, kk⟩
    apply sX7_leastSoftening_2 hR h_o0
    exact ⟨fun _ => kk, fun h => by omega⟩
  · rintro s - hs ⟨hs0, kk⟩ ih
    rw [show (41 - s).toNat = (41 - (s + 1)).toNat + 1 by omega] at kk
    unfold ffirst at kk
    apply sX7_leastSoftening_2 hR h_o0
    refine ⟨fun h => by omega, fun _ => ⟨by omega, h0, by omega, fun h => ?_, fun h => ?_⟩⟩
    · rw [if_neg h] at kk
      exact ⟨by omega, ih () ⟨by omega, kk⟩⟩
    · rw [if_pos h] at kk
      exact kk
set_option maxRecDepth 20000 in
theorem sX7_placeBehind_0 {G : ZG} {d : Nat} {iv : Nat → Nat → Int} {K : Option AV → AH → Prop} {rv : Nat → Nat → Option Nat} {o0 : Nat} {x1 : Int} (hR : RC rv) (h_o0 : isSd o0) (h : (-2147483648 ≤ (x1 - 8) ∧ (x1 - 8) ≤ 2147483647) ∧ ((0 ≤ (x1 - 8) ∧ (x1 - 8) < (400 : Nat)) ∧ ((-2147483648 ≤ (x1 - 8) ∧ (x1 - 8) ≤ 2147483647) ∧ ((0 ≤ (x1 - 8) ∧ (x1 - 8) < (400 : Nat)) ∧ ((-2147483648 ≤ ((iv (o0 + 3) ((x1 - 8).toNat)) + (iv (o0 + 1) ((x1 - 8).toNat))) ∧ ((iv (o0 + 3) ((x1 - 8).toNat)) + (iv (o0 + 1) ((x1 - 8).toNat))) ≤ 2147483647) ∧ ((0 ≤ x1 ∧ x1 < (400 : Nat)) ∧ ((-2147483648 ≤ (((iv (o0 + 3) ((x1 - 8).toNat)) + (iv (o0 + 1) ((x1 - 8).toNat))) + (iv (o0 + 1) ((x1).toNat))) ∧ (((iv (o0 + 3) ((x1 - 8).toNat)) + (iv (o0 + 1) ((x1 - 8).toNat))) + (iv (o0 + 1) ((x1).toNat))) ≤ 2147483647) ∧ ((-2147483648 ≤ ((((iv (o0 + 3) ((x1 - 8).toNat)) + (iv (o0 + 1) ((x1 - 8).toNat))) + (iv (o0 + 1) ((x1).toNat))) + (iv 14 0)) ∧ ((((iv (o0 + 3) ((x1 - 8).toNat)) + (iv (o0 + 1) ((x1 - 8).toNat))) + (iv (o0 + 1) ((x1).toNat))) + (iv 14 0)) ≤ 2147483647) ∧ (K (some (vi ((((iv (o0 + 3) ((x1 - 8).toNat)) + (iv (o0 + 1) ((x1 - 8).toNat))) + (iv (o0 + 1) ((x1).toNat))) + (iv 14 0)))) (mkC iv rv)))))))))) : Z G mX7_placeBehind d 0 0 0 [vr (some o0), vi x1] [] (mkC iv rv) K := (Z_aload_n (dX7_placeBehind 0) rfl (Z_gRC (r := (some (o0 + 3))) (dX7_placeBehind 1) lk_X7_22 (Sd_sh h_o0) rfl (Sd_r3 hR h_o0) (Z_iload_n (dX7_placeBehind 2) rfl (Z_bipush (dX7_placeBehind 3) ⟨by decide, by decide⟩ (Z_isub (dX7_placeBehind 4) h.1 (Z_ilC (x := (iv (o0 + 3) ((x1 - 8).toNat))) (dX7_placeBehind 5) (Sd_a3 h_o0) h.2.1 rfl (Z_aload_n (dX7_placeBehind 6) rfl (Z_gRC (r := (some (o0 + 1))) (dX7_placeBehind 7) lk_X7_15 (Sd_sh h_o0) rfl (Sd_r1 hR h_o0) (Z_iload_n (dX7_placeBehind 8) rfl (Z_bipush (dX7_placeBehind 9) ⟨by decide, by decide⟩ (Z_isub (dX7_placeBehind 10) h.2.2.1 (Z_ilC (x := (iv (o0 + 1) ((x1 - 8).toNat))) (dX7_placeBehind 11) (Sd_a1 h_o0) h.2.2.2.1 rfl (Z_iadd (dX7_placeBehind 12) h.2.2.2.2.1 (Z_aload_n (dX7_placeBehind 13) rfl (Z_gRC (r := (some (o0 + 1))) (dX7_placeBehind 14) lk_X7_15 (Sd_sh h_o0) rfl (Sd_r1 hR h_o0) (Z_iload_n (dX7_placeBehind 15) rfl (Z_ilC (x := (iv (o0 + 1) ((x1).toNat))) (dX7_placeBehind 16) (Sd_a1 h_o0) h.2.2.2.2.2.1 rfl (Z_iadd (dX7_placeBehind 17) h.2.2.2.2.2.2.1 (Z_aload_n (dX7_placeBehind 18) rfl (Z_gRC (r := (some 14)) (dX7_placeBehind 19) lk_X7_9 (Sd_sh h_o0) rfl (Sd_r0 hR h_o0) (Z_gIC (x := (iv 14 0)) (dX7_placeBehind 20) lk_X7_62 sC14 (Or.inl rfl) rfl (Z_iadd (dX7_placeBehind 21) h.2.2.2.2.2.2.2.1 (Z_ireturn (dX7_placeBehind 22) rfl h.2.2.2.2.2.2.2.2)))))))))))))))))))))))
theorem C_placeBehind {G : ZG} {d : Nat} {iv : Nat → Nat → Int} {K : Option AV → AH → Prop} {rv : Nat → Nat → Option Nat} {o0 : Nat} {x1 : Int} (hR : RC rv) (h_o0 : isSd o0) (h1 : 8 ≤ x1 ∧ x1 < 400) (h2 : 0 ≤ iv (o0 + 3) (x1 - 8).toNat ∧ iv (o0 + 3) (x1 - 8).toNat ≤ 1000000) (h3 : (0 ≤ iv (o0 + 1) (x1 - 8).toNat ∧ iv (o0 + 1) (x1 - 8).toNat ≤ 40) ∧ (0 ≤ iv (o0 + 1) x1.toNat ∧ iv (o0 + 1) x1.toNat ≤ 40) ∧ (1 ≤ iv 14 0 ∧ iv 14 0 ≤ 20)) (k : K (some (vi (iv (o0 + 3) (x1 - 8).toNat + iv (o0 + 1) (x1 - 8).toNat + iv (o0 + 1) x1.toNat + iv 14 0))) (mkC iv rv)) : Z G mX7_placeBehind d 0 0 0 [vr (some o0), vi x1] [] (mkC iv rv) K := by
  apply sX7_placeBehind_0 hR h_o0
  refine ⟨?_, ⟨?_, ⟨?_, ⟨?_, ⟨?_, ⟨?_, ⟨?_, ⟨?_, ?_⟩⟩⟩⟩⟩⟩⟩⟩
  all_goals (try omega)
set_option maxRecDepth 20000 in
theorem sX7_layOut_0 {G : ZG} {d : Nat} {iv : Nat → Nat → Int} {K : Option AV → AH → Prop} {rv : Nat → Nat → Option Nat} {o0 : Nat} (hR : RC rv) (h_o0 : isSd o0) (h : Z G mX7_layOut (d + 1) 0 0 2 [vr (some o0), vi 0, vu, vu] [] (mkC iv rv) K) : Z G mX7_layOut (d + 1) 0 0 0 [vr (some o0), vu, vu, vu] [] (mkC iv rv) K := (Z_iconst (dX7_layOut 0) ⟨by decide, by decide⟩ (Z_istore_n (dX7_layOut 1) (Nat.le_of_ble_eq_true rfl) rfl h))
set_option maxRecDepth 20000 in
theorem sX7_layOut_2 {G : ZG} {d : Nat} {iv : Nat → Nat → Int} {K : Option AV → AH → Prop} {rv : Nat → Nat → Option Nat} {o0 : Nat} {x1 : Int} (hR : RC rv) (h_o0 : isSd o0) (h : ((iv o0 4) ≤ x1 → (K none (mkC iv rv))) ∧ (x1 < (iv o0 4) → ((¬ x1 = 0 → ((-2147483648 ≤ (x1 - 1) ∧ (x1 - 1) ≤ 2147483647) ∧ ((0 ≤ (x1 - 1) ∧ (x1 - 1) < (400 : Nat)) ∧ ((x1 < 8 → (Z G mX7_layOut (d + 1) 0 0 43 [vr (some o0), vi x1, vi (iv (o0 + 3) ((x1 - 1).toNat)), vu] [] (mkC iv rv) K)) ∧ (8 ≤ x1 → ((8 ≤ x1 ∧ x1 < 400) ∧ ((0 ≤ iv (o0 + 3) (x1 - 8).toNat ∧ iv (o0 + 3) (x1 - 8).toNat ≤ 1000000) ∧ (((0 ≤ iv (o0 + 1) (x1 - 8).toNat ∧ iv (o0 + 1) (x1 - 8).toNat ≤ 40) ∧ (0 ≤ iv (o0 + 1) (x1).toNat ∧ iv (o0 + 1) (x1).toNat ≤ 40) ∧ (1 ≤ iv 14 0 ∧ iv 14 0 ≤ 20)) ∧ (Z G mX7_layOut (d + 1) 0 0 43 [vr (some o0), vi x1, vi (max (iv (o0 + 3) ((x1 - 1).toNat)) (iv (o0 + 3) (x1 - 8).toNat + iv (o0 + 1) (x1 - 8).toNat + iv (o0 + 1) (x1).toNat + iv 14 0)), vu] [] (mkC iv rv) K))))))))) ∧ (x1 = 0 → ((x1 < 8 → (Z G mX7_layOut (d + 1) 0 0 43 [vr (some o0), vi x1, vi 0, vu] [] (mkC iv rv) K)) ∧ (8 ≤ x1 → ((8 ≤ x1 ∧ x1 < 400) ∧ ((0 ≤ iv (o0 + 3) (x1 - 8).toNat ∧ iv (o0 + 3) (x1 - 8).toNat ≤ 1000000) ∧ (((0 ≤ iv (o0 + 1) (x1 - 8).toNat ∧ iv (o0 + 1) (x1 - 8).toNat ≤ 40) ∧ (0 ≤ iv (o0 + 1) (x1).toNat ∧ iv (o0 + 1) (x1).toNat ≤ 40) ∧ (1 ≤ iv 14 0 ∧ iv 14 0 ≤ 20)) ∧ (Z G mX7_layOut (d + 1) 0 0 43 [vr (some o0), vi x1, vi (max 0 (iv (o0 + 3) (x1 - 8).toNat + iv (o0 + 1) (x1 - 8).toNat + iv (o0 + 1) (x1).toNat + iv 14 0)), vu] [] (mkC iv rv) K)))))))))) : Z G mX7_layOut (d + 1) 0 0 2 [vr (some o0), vi x1, vu, vu] [] (mkC iv rv) K := (Z_iload_n (dX7_layOut 2) rfl (Z_aload_n (dX7_layOut 3) rfl (Z_gIC (x := (iv o0 4)) (dX7_layOut 4) lk_X7_32 (Sd_sh h_o0) (Or.inl rfl) rfl (Z_icmp_ge (dX7_layOut 5) rfl (fun c1 => (Z_return (dX7_layOut 70) rfl (h.1 c1))) (fun c2 => (Z_iload_n (dX7_layOut 6) rfl (Z_if_ne (dX7_layOut 7) rfl (fun c3 => (Z_aload_n (dX7_layOut 10) rfl (Z_gRC (r := (some (o0 + 3))) (dX7_layOut 11) lk_X7_22 (Sd_sh h_o0) rfl (Sd_r3 hR h_o0) (Z_iload_n (dX7_layOut 12) rfl (Z_iconst (dX7_layOut 13) ⟨by decide, by decide⟩ (Z_isub (dX7_layOut 14) ((h.2 c2).1 c3).1 (Z_ilC (x := (iv (o0 + 3) ((x1 - 1).toNat))) (dX7_layOut 15) (Sd_a3 h_o0) ((h.2 c2).1 c3).2.1 rfl (Z_istore_n (dX7_layOut 16) (Nat.le_of_ble_eq_true rfl) rfl (Z_iload_n (dX7_layOut 17) rfl (Z_bipush (dX7_layOut 18) ⟨by decide, by decide⟩ (Z_icmp_lt (dX7_layOut 19) rfl (fun c5 => (((h.2 c2).1 c3).2.2.1 c5)) (fun c6 => (Z_iload_n (dX7_layOut 20) rfl (Z_aload_n (dX7_layOut 21) rfl (Z_iload_n (dX7_layOut 22) rfl (Z_cVC (As := [vi x1]) (S := [vi (iv (o0 + 3) ((x1 - 1).toNat))]) (dX7_layOut 23) lk_X7_82 (Sd_sh h_o0) (by decide) rfl rfl (Nat.le_of_ble_eq_true rfl) (Nat.le_of_ble_eq_true rfl) (C_placeBehind hR h_o0 (((h.2 c2).1 c3).2.2.2 c6).1 (((h.2 c2).1 c3).2.2.2 c6).2.1 (((h.2 c2).1 c3).2.2.2 c6).2.2.1 ((Z_max (dX7_layOut 24) lk_X7_85 mt_max_s mt_ini mt_max_c (Nat.le_of_ble_eq_true rfl) (Z_istore_n (dX7_layOut 25) (Nat.le_of_ble_eq_true rfl) rfl (((h.2 c2).1 c3).2.2.2 c6).2.2.2)))))))))))))))))))) (fun c4 => (Z_iconst (dX7_layOut 8) ⟨by decide, by decide⟩ (Z_goto (dX7_layOut 9) rfl (Z_istore_n (dX7_layOut 16) (Nat.le_of_ble_eq_true rfl) rfl (Z_iload_n (dX7_layOut 17) rfl (Z_bipush (dX7_layOut 18) ⟨by decide, by decide⟩ (Z_icmp_lt (dX7_layOut 19) rfl (fun c7 => (((h.2 c2).2 c4).1 c7)) (fun c8 => (Z_iload_n (dX7_layOut 20) rfl (Z_aload_n (dX7_layOut 21) rfl (Z_iload_n (dX7_layOut 22) rfl (Z_cVC (As := [vi x1]) (S := [vi 0]) (dX7_layOut 23) lk_X7_82 (Sd_sh h_o0) (by decide) rfl rfl (Nat.le_of_ble_eq_true rfl) (Nat.le_of_ble_eq_true rfl) (C_placeBehind hR h_o0 (((h.2 c2).2 c4).2 c8).1 (((h.2 c2).2 c4).2 c8).2.1 (((h.2 c2).2 c4).2 c8).2.2.1 ((Z_max (dX7_layOut 24) lk_X7_85 mt_max_s mt_ini mt_max_c (Nat.le_of_ble_eq_true rfl) (Z_istore_n (dX7_layOut 25) (Nat.le_of_ble_eq_true rfl) rfl (((h.2 c2).2 c4).2 c8).2.2.2)))))))))))))))))))))))
set_option maxRecDepth 20000 in
theorem sX7_layOut_43 {G : ZG} {d : Nat} {iv : Nat → Nat → Int} {K : Option AV → AH → Prop} {rv : Nat → Nat → Option Nat} {o0 : Nat} {x1 x2 : Int} (hR : RC rv) (h_o0 : isSd o0) (h : (0 ≤ x1 ∧ x1 < (400 : Nat)) ∧ ((-2147483648 ≤ (x1 - 1) ∧ (x1 - 1) ≤ 2147483647) ∧ (Z G mX7_layOut (d + 1) 0 0 54 [vr (some o0), vi x1, vu, vi (x1 - 1)] [] (mkC (iu iv (o0 + 3) ((x1).toNat) x2) rv) K))) : Z G mX7_layOut (d + 1) 0 0 43 [vr (some o0), vi x1, vi x2, vu] [] (mkC iv rv) K := (Z_aload_n (dX7_layOut 26) rfl (Z_gRC (r := (some (o0 + 3))) (dX7_layOut 27) lk_X7_22 (Sd_sh h_o0) rfl (Sd_r3 hR h_o0) (Z_iload_n (dX7_layOut 28) rfl (Z_iload_n (dX7_layOut 29) rfl (Z_iastC (dX7_layOut 30) (Sd_a3 h_o0) h.1 (Z_iload_n (dX7_layOut 31) rfl (Z_iconst (dX7_layOut 32) ⟨by decide, by decide⟩ (Z_isub (dX7_layOut 33) h.2.1 (Z_istore_n (dX7_layOut 34) (Nat.le_of_ble_eq_true rfl) rfl (Z.fg (L' := [vr (some o0), vi x1, vu, vi (x1 - 1)]) (L := [vr (some o0), vi x1, vi x2, vi (x1 - 1)]) ⟨Or.inl rfl, ⟨Or.inl rfl, ⟨Or.inr rfl, ⟨Or.inl rfl, trivial⟩⟩⟩⟩ h.2.2))))))))))
set_option maxRecDepth 20000 in
theorem sX7_layOut_54 {G : ZG} {d : Nat} {iv : Nat → Nat → Int} {K : Option AV → AH → Prop} {rv : Nat → Nat → Option Nat} {o0 : Nat} {x1 x3 : Int} (hR : RC rv) (h_o0 : isSd o0) (h : (x3 < 0 → ((-2147483648 ≤ (x1 + 1) ∧ (x1 + 1) ≤ 2147483647) ∧ (Z G mX7_layOut (d + 1) 0 0 2 [vr (some o0), vi (x1 + 1), vu, vu] [] (mkC iv rv) K))) ∧ (0 ≤ x3 → ((0 ≤ x3 ∧ x3 < (400 : Nat)) ∧ ((-2147483648 ≤ (x3 + 1) ∧ (x3 + 1) ≤ 2147483647) ∧ ((0 ≤ (x3 + 1) ∧ (x3 + 1) < (400 : Nat)) ∧ ((-2147483648 ≤ ((iv (o0 + 3) ((x3 + 1).toNat)) - (iv 14 1)) ∧ ((iv (o0 + 3) ((x3 + 1).toNat)) - (iv 14 1)) ≤ 2147483647) ∧ ((((iv (o0 + 3) ((x3 + 1).toNat)) - (iv 14 1)) ≤ (iv (o0 + 3) ((x3).toNat)) → ((-2147483648 ≤ (x1 + 1) ∧ (x1 + 1) ≤ 2147483647) ∧ (Z G mX7_layOut (d + 1) 0 0 2 [vr (some o0), vi (x1 + 1), vu, vu] [] (mkC iv rv) K))) ∧ ((iv (o0 + 3) ((x3).toNat)) < ((iv (o0 + 3) ((x3 + 1).toNat)) - (iv 14 1)) → ((-2147483648 ≤ (x3 + 1) ∧ (x3 + 1) ≤ 2147483647) ∧ ((0 ≤ (x3 + 1) ∧ (x3 + 1) < (400 : Nat)) ∧ ((-2147483648 ≤ ((iv (o0 + 3) ((x3 + 1).toNat)) - (iv 14 1)) ∧ ((iv (o0 + 3) ((x3 + 1).toNat)) - (iv 14 1)) ≤ 2147483647) ∧ ((0 ≤ x3 ∧ x3 < (400 : Nat)) ∧ ((-2147483648 ≤ (x3 + (-1)) ∧ (x3 + (-1)) ≤ 2147483647) ∧ (Z G mX7_layOut (d + 1) 0 0 54 [vr (some o0), vi x1, vu, vi (x3 + (-1))] [] (mkC (iu iv (o0 + 3) ((x3).toNat) ((iv (o0 + 3) ((x3 + 1).toNat)) - (iv 14 1))) rv) K)))))))))))))) : Z G mX7_layOut (d + 1) 0 0 54 [vr (some o0), vi x1, vu, vi x3] [] (mkC iv rv) K := (Z_iload_n (dX7_layOut 35) rfl (Z_if_lt (dX7_layOut 36) rfl (fun c1 => (Z_iinc (dX7_layOut 68) rfl (Nat.le_of_ble_eq_true rfl) (h.1 c1).1 rfl (Z_goto (dX7_layOut 69) rfl (Z.fg (L' := [vr (some o0), vi (x1 + 1), vu, vu]) (L := [vr (some o0), vi (x1 + 1), vu, vi x3]) ⟨Or.inl rfl, ⟨Or.inl rfl, ⟨Or.inl rfl, ⟨Or.inr rfl, trivial⟩⟩⟩⟩ (h.1 c1).2)))) (fun c2 => (Z_aload_n (dX7_layOut 37) rfl (Z_gRC (r := (some (o0 + 3))) (dX7_layOut 38) lk_X7_22 (Sd_sh h_o0) rfl (Sd_r3 hR h_o0) (Z_iload_n (dX7_layOut 39) rfl (Z_ilC (x := (iv (o0 + 3) ((x3).toNat))) (dX7_layOut 40) (Sd_a3 h_o0) (h.2 c2).1 rfl (Z_aload_n (dX7_layOut 41) rfl (Z_gRC (r := (some (o0 + 3))) (dX7_layOut 42) lk_X7_22 (Sd_sh h_o0) rfl (Sd_r3 hR h_o0) (Z_iload_n (dX7_layOut 43) rfl (Z_iconst (dX7_layOut 44) ⟨by decide, by decide⟩ (Z_iadd (dX7_layOut 45) (h.2 c2).2.1 (Z_ilC (x := (iv (o0 + 3) ((x3 + 1).toNat))) (dX7_layOut 46) (Sd_a3 h_o0) (h.2 c2).2.2.1 rfl (Z_aload_n (dX7_layOut 47) rfl (Z_gRC (r := (some 14)) (dX7_layOut 48) lk_X7_9 (Sd_sh h_o0) rfl (Sd_r0 hR h_o0) (Z_gIC (x := (iv 14 1)) (dX7_layOut 49) lk_X7_57 sC14 (Or.inl rfl) rfl (Z_isub (dX7_layOut 50) (h.2 c2).2.2.2.1 (Z_icmp_ge (dX7_layOut 51) rfl (fun c3 => (Z_iinc (dX7_layOut 68) rfl (Nat.le_of_ble_eq_true rfl) ((h.2 c2).2.2.2.2.1 c3).1 rfl (Z_goto (dX7_layOut 69) rfl (Z.fg (L' := [vr (some o0), vi (x1 + 1), vu, vu]) (L := [vr (some o0), vi (x1 + 1), vu, vi x3]) ⟨Or.inl rfl, ⟨Or.inl rfl, ⟨Or.inl rfl, ⟨Or.inr rfl, trivial⟩⟩⟩⟩ ((h.2 c2).2.2.2.2.1 c3).2)))) (fun c4 => (Z_aload_n (dX7_layOut 52) rfl (Z_gRC (r := (some (o0 + 3))) (dX7_layOut 53) lk_X7_22 (Sd_sh h_o0) rfl (Sd_r3 hR h_o0) (Z_iload_n (dX7_layOut 54) rfl (Z_aload_n (dX7_layOut 55) rfl (Z_gRC (r := (some (o0 + 3))) (dX7_layOut 56) lk_X7_22 (Sd_sh h_o0) rfl (Sd_r3 hR h_o0) (Z_iload_n (dX7_layOut 57) rfl (Z_iconst (dX7_layOut 58) ⟨by decide, by decide⟩ (Z_iadd (dX7_layOut 59) ((h.2 c2).2.2.2.2.2 c4).1 (Z_ilC (x := (iv (o0 + 3) ((x3 + 1).toNat))) (dX7_layOut 60) (Sd_a3 h_o0) ((h.2 c2).2.2.2.2.2 c4).2.1 rfl (Z_aload_n (dX7_layOut 61) rfl (Z_gRC (r := (some 14)) (dX7_layOut 62) lk_X7_9 (Sd_sh h_o0) rfl (Sd_r0 hR h_o0) (Z_gIC (x := (iv 14 1)) (dX7_layOut 63) lk_X7_57 sC14 (Or.inl rfl) rfl (Z_isub (dX7_layOut 64) ((h.2 c2).2.2.2.2.2 c4).2.2.1 (Z_iastC (dX7_layOut 65) (Sd_a3 h_o0) ((h.2 c2).2.2.2.2.2 c4).2.2.2.1 (Z_iinc (dX7_layOut 66) rfl (Nat.le_of_ble_eq_true rfl) ((h.2 c2).2.2.2.2.2 c4).2.2.2.2.1 rfl (Z_goto (dX7_layOut 67) rfl ((h.2 c2).2.2.2.2.2 c4).2.2.2.2.2)))))))))))))))))))))))))))))))))))
def leastC (iv : Nat → Nat → Int) (o : Nat) : Prop := Least (iv o 4) (fun k => iv (o + 1) k.toNat) (iv 14 0) (iv 14 1) (fun k => iv (o + 3) k.toNat)
theorem nearC_none {iv : Nat → Nat → Int} {o : Nat} (h : ∀ k : Int, 0 ≤ k → k < iv o 4 → 0 ≤ iv (o + 1) k.toNat ∧ iv (o + 1) k.toNat ≤ 40) : nearC iv o 40 = -1 ↔ ∀ k, 8 ≤ k → k < iv o 4 → iv (o + 1) k.toNat + iv (o + 1) (k - 8).toNat + iv 14 0 ≤ 8 * iv 14 1 := by
  unfold nearC
  rw [ffirst_none _ _ (by omega)]
  constructor
  · intro q k h1 h2
    have a1 := h k (by omega) (by omega)
    have a2 := h (k - 8) (by omega) (by omega)
    have := q k h1 (by omega)
    omega
  · intro q k h1 h2
    have a1 := h k (by omega) (by omega)
    have a2 := h (k - 8) (by omega) (by omega)
    have := q k h1 (by omega)
    omega
/-- the next part: what comes of LEAST PLACES -/
theorem Least.next {k : Int} {lv : Int → Int} {land feed : Int} {p p' : Int → Int} {a : Int} (hk : 0 ≤ k) (hf : 0 ≤ feed) (hs : ∀ j, 8 ≤ j → j < k + 1 → lv j + lv (j - 8) + land ≤ 8 * feed) (h : Least k lv land feed p) (ha : a = if k = 0 then 0 else if k < 8 then p (k - 1) else max (p (k - 1)) (p (k - 8) + lv (k - 8) + lv k + land)) (hp : ∀ i, 0 ≤ i → i < k → p' i = max (p i) (a - (k - i) * feed)) (hpk : p' k = a) : Least (k + 1) lv land feed p' := by
  obtain ⟨⟨p1, p2, p3⟩, pm⟩ := h
  have ha1 : 1 ≤ k → p (k - 1) ≤ a := by
    intro h1
    rw [ha, if_neg (by omega)]
    split <;> omega
  have ha8 : 8 ≤ k → p (k - 8) + lv (k - 8) + lv k + land ≤ a := by
    intro h1
    rw [ha, if_neg (by omega), if_neg (by omega)]
    omega
  have ha0 : 0 ≤ a := by
    by_cases e : k = 0
    · rw [ha, if_pos e]; omega
    · have := p1 (k - 1) (by omega) (by omega)
      have := ha1 (by omega)
      omega
  have e1 : ∀ i, (k - i) * feed = (k - (i - 1)) * feed - feed := by
    intro i
    rw [show k - (i - 1) = (k - i) + 1 by omega, Int.add_mul]
    omega
  have e8 : ∀ i, (k - i) * feed = (k - (i - 8)) * feed - 8 * feed := by
    intro i
    rw [show k - (i - 8) = (k - i) + 8 by omega, Int.add_mul]
    omega
  have gen : ∀ i, 0 ≤ i → i ≤ k → p' i = max (if i = k then a else p i) (a - (k - i) * feed) := by
    intro i h1 h2
    by_cases e : i = k
    · rw [if_pos e, e, hpk, Int.sub_self, Int.zero_mul]; omega
    · rw [if_neg e, hp i h1 (by omega)]
  refine ⟨⟨fun i h1 h2 => ?_, fun i h1 h2 => ?_, fun i h1 h2 => ?_⟩, fun q hq i h1 h2 => ?_⟩
  · rw [gen i h1 (by omega)]
    by_cases e : i = k
    · rw [if_pos e]; omega
    · rw [if_neg e]; have := p1 i h1 (by omega); omega
  · rw [gen i (by omega) (by omega), gen (i - 1) (by omega) (by omega), if_neg (show ¬ i - 1 = k by omega)]
    have := e1 i
    by_cases e : i = k
    · rw [if_pos e]
      subst e
      have := ha1 (by omega)
      rw [Int.sub_self, Int.zero_mul] at *
      omega
    · rw [if_neg e]
      have := p2 i (by omega) (by omega)
      omega
  · rw [gen i (by omega) (by omega), gen (i - 8) (by omega) (by omega), if_neg (show ¬ i - 8 = k by omega)]
    have := e8 i
    have hb := hs i h1 (by omega)
    by_cases e : i = k
    · rw [if_pos e]
      subst e
      have := ha8 h1
      rw [Int.sub_self, Int.zero_mul] at *
      omega
    · rw [if_neg e]
      have := p3 i h1 (by omega)
      omega
  · have hq' : Pl k lv land feed q := ⟨fun j a b => hq.1 j a (by omega), fun j a b => hq.2.1 j a (by omega), fun j a b => hq.2.2 j a (by omega)⟩
    have hpq := pm q hq'
    have hqa : a ≤ q k := by
      rw [ha]
      by_cases e : k = 0
      · rw [if_pos e]; exact hq.1 k hk (by omega)
      · rw [if_neg e]
        have c1 := hpq (k - 1) (by omega) (by omega)
        have c2 := hq.2.1 k (by omega) (by omega)
        by_cases e8 : k < 8
        · rw [if_pos e8]; omega
        · rw [if_neg e8]
          have c3 := hpq (k - 8) (by omega) (by omega)
          have c4 := hq.2.2 k (by omega) (by omega)
          omega
    have down : ∀ (m : Nat) (i : Int), 0 ≤ i → i + m = k → q k - m * feed ≤ q i := by
      intro m
      induction m with
      | zero => intro i h1 h2; rw [show i = k by omega]; simp
      | succ m ih =>
        intro i h1 h2
        have c1 := ih (i + 1) (by omega) (by omega)
        have c2 := (hq.2.1 (i + 1) (by omega) (by omega)).2
        rw [show i + 1 - 1 = i by omega] at c2
        have : ((m + 1 : Nat) : Int) * feed = m * feed + feed := by rw [Int.natCast_succ, Int.add_mul]; omega
        omega
    have d := down (k - i).toNat i h1 (by omega)
    rw [show (((k - i).toNat : Nat) : Int) = k - i by omega] at d
    rw [gen i h1 (by omega)]
    by_cases e : i = k
    · rw [if_pos e]; subst e; rw [Int.sub_self, Int.zero_mul] at *; omega
    · rw [if_neg e]
      have := hpq i h1 (by omega)
      omega
theorem C_layIn {G : ZG} {d : Nat} {u : Nat → Nat → Int} {K : Option AV → AH → Prop} {rv : Nat → Nat → Option Nat} {o0 : Nat} {n a : Int} (hR : RC rv) (h_o0 : isSd o0) (hn : 0 ≤ n ∧ n < 400) (hf : 0 ≤ u 14 1 ∧ u 14 1 ≤ 20) (hb : ∀ i, 0 ≤ i → i < n → 0 ≤ u (o0 + 3) i.toNat ∧ u (o0 + 3) i.toNat ≤ 8000) (hs : ∀ i, 1 ≤ i → i < n → u (o0 + 3) i.toNat ≤ u (o0 + 3) (i - 1).toNat + u 14 1) (ha : 0 ≤ a ∧ a ≤ 20000) (k : ∀ v : Nat → Nat → Int, (∀ i, i ≠ o0 + 3 → v i = u i) → v (o0 + 3) n.toNat = a → (∀ i, 0 ≤ i → i < n → v (o0 + 3) i.toNat = max (u (o0 + 3) i.toNat) (a - (n - i) * u 14 1)) → Z G mX7_layOut (d + 1) 0 0 2 [vr (some o0), vi (n + 1), vu, vu] [] (mkC v rv) K) : Z G mX7_layOut (d + 1) 0 0 54 [vr (some o0), vi n, vu, vi (n - 1)] [] (mkC (iu u (o0 + 3) n.toNat a) rv) K := by
  have h14 : 14 ≠ o0 + 3 := by have := h_o0; unfold isSd at this; omega
  have fin : ∀ (j : Int) (v : Nat → Nat → Int), -1 ≤ j → j < n → (∀ i, i ≠ o0 + 3 → v i = u i) → (∀ i, 0 ≤ i → i ≤ j → v (o0 + 3) i.toNat = u (o0 + 3) i.toNat) → v (o0 + 3) n.toNat = a → (∀ i, j < i → i < n → v (o0 + 3) i.toNat = a - (n - i) * u 14 1 ∧ u (o0 + 3) i.toNat < v (o0 + 3) i.toNat) → (0 ≤ j → v (o0 + 3) (j + 1).toNat - u 14 1 ≤ v (o0 + 3) j.toNat) → Z G mX7_layOut (d + 1) 0 0 2 [vr (some o0), vi (n + 1), vu, vu] [] (mkC v rv) K := by
    intro j v j1 j2 f1 f2 f3 f4 f5
    refine k v f1 f3 ?_
    have e1 : ∀ i, (n - i) * u 14 1 = (n - (i + 1)) * u 14 1 + u 14 1 := by
      intro i
      rw [show n - i = (n - (i + 1)) + 1 by omega, Int.add_mul]
      omega
    have low : ∀ (m : Nat) (i : Int), 0 ≤ i → i + m = j → a - (n - i) * u 14 1 ≤ u (o0 + 3) i.toNat := by
      intro m
      induction m with
      | zero =>
        intro i i1 i2
        have ei : i = j := by omega
        subst ei
        have g1 := f5 i1
        have g2 := f2 i i1 (by omega)
        have g3 := e1 i
        have g4 : v (o0 + 3) (i + 1).toNat = a - (n - (i + 1)) * u 14 1 := by
          by_cases e : i + 1 = n
          · rw [e, f3, Int.sub_self, Int.zero_mul]; omega
          · exact (f4 (i + 1) (by omega) (by omega)).1
        omega
      | succ m ih =>
        intro i i1 i2
        have g1 := ih (i + 1) (by omega) (by omega)
        have g2 := hs (i + 1) (by omega) (by omega)
        rw [show i + 1 - 1 = i by omega] at g2
        have g3 := e1 i
        omega
    intro i i1 i2
    by_cases e : i ≤ j
    · have g1 := low (j - i).toNat i i1 (by omega)
      rw [f2 i i1 e]
      omega
    · have g1 := f4 i (by omega) i2
      omega
  refine lp_dn (P := fun j v => Z G mX7_layOut (d + 1) 0 0 54 [vr (some o0), vi n, vu, vi j] [] (mkC v rv) K) (-1) (fun j v => -1 ≤ j ∧ j < n ∧ (∀ i, i ≠ o0 + 3 → v i = u i) ∧ (∀ i, 0 ≤ i → i ≤ j → v (o0 + 3) i.toNat = u (o0 + 3) i.toNat) ∧ v (o0 + 3) n.toNat = a ∧ (∀ i, j < i → i < n → v (o0 + 3) i.toNat = a - (n - i) * u 14 1 ∧ u (o0 + 3) i.toNat < v (o0 + 3) i.toNat)) ?_ ?_ (n - 1) _ (by omega) ⟨by omega, by omega, ?_, ?_, ?_, ?_⟩
  · rintro v ⟨j1, j2, f1, f2, f3, f4⟩
    apply sX7_layOut_54 hR h_o0
    exact ⟨fun _ => ⟨by omega, fin (-1) v j1 j2 f1 f2 f3 f4 (fun h => by omega)⟩, fun h => by omega⟩
  · rintro j v hj ⟨j1, j2, f1, f2, f3, f4⟩ ih
    apply sX7_layOut_54 hR h_o0
    have v14 : v 14 1 = u 14 1 := by rw [f1 14 h14]
    have b1 := hb j (by omega) j2
    have b2 := f2 j (by omega) (by omega)
    have b3 : v (o0 + 3) (j + 1).toNat = a - (n - (j + 1)) * u 14 1 ∧ (j + 1 < n → u (o0 + 3) (j + 1).toNat < v (o0 + 3) (j + 1).toNat) := by
      by_cases e : j + 1 = n
      · rw [e, f3, Int.sub_self, Int.zero_mul]; exact ⟨by omega, fun h => by omega⟩
      · have := f4 (j + 1) (by omega) (by omega)
        exact ⟨this.1, fun _ => this.2⟩
    have b4 : 0 ≤ (n - (j + 1)) * u 14 1 := Int.mul_nonneg (by omega) (by omega)
    have b5 : 0 ≤ v (o0 + 3) (j + 1).toNat := by
      by_cases e : j + 1 = n
      · rw [e, f3]; omega
      · have := hb (j + 1) (by omega) (by omega)
        have := b3.2 (by omega)
        omega
    rw [v14]
    refine ⟨fun h => by omega, fun _ => ⟨by omega, by omega, by omega, by omega, fun h => ⟨by omega, fin j v j1 j2 f1 f2 f3 f4 (fun _ => h)⟩, fun h => ⟨by omega, by omega, by omega, by omega, by omega, ?_⟩⟩⟩
    refine ih _ ⟨by omega, by omega, fun i hi => ?_, fun i i1 i2 => ?_, ?_, fun i i1 i2 => ?_⟩
    · rw [← f1 i hi]; funext q; exact iu_o hi
    · rw [iu_k (by omega)]; exact f2 i i1 (by omega)
    · rw [iu_k (by omega)]; exact f3
    · by_cases e : i = j
      · subst e
        rw [iu_eq]
        have : (n - i) * u 14 1 = (n - (i + 1)) * u 14 1 + u 14 1 := by
          rw [show n - i = (n - (i + 1)) + 1 by omega, Int.add_mul]
          omega
        omega
      · rw [iu_k (by omega)]; exact f4 i (by omega) i2
  · intro i hi; funext q; exact iu_o hi
  · intro i i1 i2; rw [iu_k (by omega)]
  · exact iu_eq
  · intro i i1 i2; omega
theorem C_layOut {G : ZG} {d : Nat} {iv : Nat → Nat → Int} {K : Option AV → AH → Prop} {rv : Nat → Nat → Option Nat} {o0 : Nat} (hR : RC rv) (h0 : okSd iv o0) (hn : nearC iv o0 40 = -1) (k : ∀ v : Nat → Nat → Int, (∀ i, i ≠ o0 + 3 → v i = iv i) ∧ leastC v o0 → K none (mkC v rv)) : Z G mX7_layOut (d + 1) 0 0 0 [vr (some o0), vu, vu, vu] [] (mkC iv rv) K := by
  obtain ⟨h_o0, h2, h3, h4, h5⟩ := h0
  have h14 : 14 ≠ o0 + 3 := by have := h_o0; unfold isSd at this; omega
  have hs := (nearC_none h4).mp hn
  apply sX7_layOut_0 hR h_o0
  refine lp_up (P := fun j v => Z G mX7_layOut (d + 1) 0 0 2 [vr (some o0), vi j, vu, vu] [] (mkC v rv) K) (iv o0 4) (fun j v => 0 ≤ j ∧ (∀ i, i ≠ o0 + 3 → v i = iv i) ∧ Least j (fun k => iv (o0 + 1) k.toNat) (iv 14 0) (iv 14 1) (fun k => v (o0 + 3) k.toNat)) ?_ ?_ 0 iv (by omega) ⟨by omega, fun _ _ => rfl, ⟨⟨fun k a b => by omega, fun k a b => by omega, fun k a b => by omega⟩, fun q _ k a b => by omega⟩⟩
  · rintro v ⟨-, f1, f2⟩
    apply sX7_layOut_2 hR h_o0
    have e4 : v o0 4 = iv o0 4 := by rw [f1 o0 (by omega)]
    rw [e4]
    refine ⟨fun _ => k v ⟨f1, ?_⟩, fun h => by omega⟩
    unfold leastC
    rw [f1 o0 (by omega), f1 (o0 + 1) (by omega), f1 14 h14]
    exact f2
  · rintro j v hj ⟨j0, f1, f2⟩ ih
    apply sX7_layOut_2 hR h_o0
    have e4 : v o0 4 = iv o0 4 := by rw [f1 o0 (by omega)]
    have ub := Least.ub (by omega) (fun i a b => hs i a (by omega)) f2
    have ub8 : ∀ i, 0 ≤ i → i < j → 0 ≤ v (o0 + 3) i.toNat ∧ v (o0 + 3) i.toNat ≤ 8000 := by
      intro i a b
      have := ub i a b
      have : i * iv 14 1 ≤ 400 * 20 := Int.mul_le_mul (by omega) (by omega) (by omega) (by omega)
      omega
    have go : ∀ a : Int, a = (if j = 0 then 0 else if j < 8 then v (o0 + 3) (j - 1).toNat else max (v (o0 + 3) (j - 1).toNat) (v (o0 + 3) (j - 8).toNat + iv (o0 + 1) (j - 8).toNat + iv (o0 + 1) j.toNat + iv 14 0)) → 0 ≤ a → a ≤ 20000 → Z G mX7_layOut (d + 1) 0 0 43 [vr (some o0), vi j, vi a, vu] [] (mkC v rv) K := by
      intro a ha a1 a2
      apply sX7_layOut_43 hR h_o0
      refine ⟨by omega, by omega, ?_⟩
      refine C_layIn hR h_o0 (by omega) (by rw [f1 14 h14]; omega) ub8 (fun i a b => ?_) (by omega) (fun w g1 g2 g3 => ?_)
      · rw [f1 14 h14]; exact (f2.1.2.1 i a b).2
      · refine ih w ⟨by omega, fun i hi => by rw [g1 i hi, f1 i hi], ?_⟩
        rw [f1 14 h14] at g3
        exact Least.next j0 (by omega) (fun i a b => hs i a (by omega)) f2 ha g3 g2
    rw [e4, f1 (o0 + 1) (by omega), f1 14 h14]
    refine ⟨fun h => by omega, fun _ => ⟨fun n0 => ⟨by omega, by omega, fun c => ?_, fun c => ⟨by omega, ?_, ?_, ?_⟩⟩, fun z0 => ⟨fun c => ?_, fun c => by omega⟩⟩⟩
    · have := ub8 (j - 1) (by omega) (by omega)
      exact go _ (by rw [if_neg n0, if_pos c]) (by omega) (by omega)
    · have := ub8 (j - 8) (by omega) (by omega)
      omega
    · have := h4 (j - 8) (by omega) (by omega)
      have := h4 j (by omega) (by omega)
      omega
    · have := ub8 (j - 1) (by omega) (by omega)
      have := ub8 (j - 8) (by omega) (by omega)
      have := h4 (j - 8) (by omega) (by omega)
      have := h4 j (by omega) (by omega)
      exact go _ (by rw [if_neg n0, if_neg (by omega)]) (by omega) (by omega)
    · exact go _ (by rw [if_pos z0]) (by omega) (by omega)

