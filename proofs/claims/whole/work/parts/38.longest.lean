/-! ===== the longest line: the class ===== -/
theorem J_bitCountI {G : ZG} {d : Nat} {A : AH} {K : Option AV → AH → Prop} {x : Int} (h : 0 ≤ x ∧ x < 65536) (k : K (some (vi ((pop 16 x.toNat : Nat) : Int))) A) : Z G mJ6_bitCount_0f7a4 d 0 0 0 [vi x] [] A K := by
  obtain ⟨n, e⟩ : ∃ n : Nat, x = n := ⟨x.toNat, by omega⟩
  subst e
  exact J_bitCount (by omega) k
/-- the lowest bit that is set -/
def lob : Nat → Nat → Nat
  | 0, _ => 0
  | F + 1, x => if x % 2 = 1 then 0 else 1 + lob F (x / 2)
theorem lob_e : ∀ (F x : Nat), x ≠ 0 → x < 2 ^ F → ∃ q, x = 2 ^ lob F x * (2 * q + 1)
  | 0, x, h, b => by omega
  | F + 1, x, h, b => by
    unfold lob
    split
    · exact ⟨x / 2, by omega⟩
    · have p : 2 ^ (F + 1) = 2 ^ F * 2 := rfl
      obtain ⟨q, e⟩ := lob_e F (x / 2) (by omega) (by omega)
      refine ⟨q, ?_⟩
      rw [Nat.add_comm 1, Nat.pow_succ, Nat.mul_comm _ 2, Nat.mul_assoc, ← e]
      omega
theorem J_ntzI {G : ZG} {d : Nat} {A : AH} {K : Option AV → AH → Prop} {x : Int} (h : 0 < x ∧ x < 65536) (k : K (some (vi ((lob 16 x.toNat : Nat) : Int))) A) : Z G mJ6_numberOfTrailingZeros_0f7a4 d 0 0 0 [vi x, vu] [] A K := by
  obtain ⟨n, e⟩ : ∃ n : Nat, x = n := ⟨x.toNat, by omega⟩
  subst e
  obtain ⟨q, e⟩ := lob_e 16 n (by omega) (by omega)
  exact J_ntz e (by omega) k
set_option maxRecDepth 20000 in
theorem sX1_isFirst_0 {G : ZG} {d : Nat} {iv : Nat → Nat → Int} {K : Option AV → AH → Prop} {rv : Nat → Nat → Option Nat} {x1 x2 : Int} (hR : RC rv) (h : (0 ≤ x1 ∧ x1 < (16 : Nat)) ∧ (((iv 33 ((x1).toNat)) = (iv 32 5) → ((0 ≤ x1 ∧ x1 < (16 : Nat)) ∧ (((iv 34 ((x1).toNat)) = (iv 32 6) → (((iv 32 7) ≤ x2 → (K (some (vi 0)) (mkC iv rv))) ∧ (x2 < (iv 32 7) → (K (some (vi 1)) (mkC iv rv))))) ∧ (¬ (iv 34 ((x1).toNat)) = (iv 32 6) → ((0 ≤ x1 ∧ x1 < (16 : Nat)) ∧ (((iv 32 6) ≤ (iv 34 ((x1).toNat)) → (K (some (vi 0)) (mkC iv rv))) ∧ ((iv 34 ((x1).toNat)) < (iv 32 6) → (K (some (vi 1)) (mkC iv rv))))))))) ∧ (¬ (iv 33 ((x1).toNat)) = (iv 32 5) → ((0 ≤ x1 ∧ x1 < (16 : Nat)) ∧ (((iv 32 5) ≤ (iv 33 ((x1).toNat)) → (K (some (vi 0)) (mkC iv rv))) ∧ ((iv 33 ((x1).toNat)) < (iv 32 5) → (K (some (vi 1)) (mkC iv rv)))))))) : Z G mX1_isFirst d 0 0 0 [vr (some 32), vi x1, vi x2] [] (mkC iv rv) K := (Z_aload_n (dX1_isFirst 0) rfl (Z_gRC (r := (some 33)) (dX1_isFirst 1) lk_X1_9 sC32 rfl (hR 40) (Z_iload_n (dX1_isFirst 2) rfl (Z_ilC (x := (iv 33 ((x1).toNat))) (dX1_isFirst 3) sC33 h.1 rfl (Z_aload_n (dX1_isFirst 4) rfl (Z_gIC (x := (iv 32 5)) (dX1_isFirst 5) lk_X1_42 sC32 (Or.inl rfl) rfl (Z_icmp_eq (dX1_isFirst 6) rfl (fun c1 => (Z_aload_n (dX1_isFirst 18) rfl (Z_gRC (r := (some 34)) (dX1_isFirst 19) lk_X1_15 sC32 rfl (hR 41) (Z_iload_n (dX1_isFirst 20) rfl (Z_ilC (x := (iv 34 ((x1).toNat))) (dX1_isFirst 21) sC34 (h.2.1 c1).1 rfl (Z_aload_n (dX1_isFirst 22) rfl (Z_gIC (x := (iv 32 6)) (dX1_isFirst 23) lk_X1_45 sC32 (Or.inl rfl) rfl (Z_icmp_eq (dX1_isFirst 24) rfl (fun c3 => (Z_iload_n (dX1_isFirst 36) rfl (Z_aload_n (dX1_isFirst 37) rfl (Z_gIC (x := (iv 32 7)) (dX1_isFirst 38) lk_X1_48 sC32 (Or.inl rfl) rfl (Z_icmp_ge (dX1_isFirst 39) rfl (fun c5 => (Z_iconst (dX1_isFirst 42) ⟨by decide, by decide⟩ (Z_zreturn (dX1_isFirst 43) rfl (Or.inl rfl) (((h.2.1 c1).2.1 c3).1 c5)))) (fun c6 => (Z_iconst (dX1_isFirst 40) ⟨by decide, by decide⟩ (Z_goto (dX1_isFirst 41) rfl (Z_zreturn (dX1_isFirst 43) rfl (Or.inr rfl) (((h.2.1 c1).2.1 c3).2 c6)))))))))) (fun c4 => (Z_aload_n (dX1_isFirst 25) rfl (Z_gRC (r := (some 34)) (dX1_isFirst 26) lk_X1_15 sC32 rfl (hR 41) (Z_iload_n (dX1_isFirst 27) rfl (Z_ilC (x := (iv 34 ((x1).toNat))) (dX1_isFirst 28) sC34 ((h.2.1 c1).2.2 c4).1 rfl (Z_aload_n (dX1_isFirst 29) rfl (Z_gIC (x := (iv 32 6)) (dX1_isFirst 30) lk_X1_45 sC32 (Or.inl rfl) rfl (Z_icmp_ge (dX1_isFirst 31) rfl (fun c7 => (Z_iconst (dX1_isFirst 34) ⟨by decide, by decide⟩ (Z_zreturn (dX1_isFirst 35) rfl (Or.inl rfl) (((h.2.1 c1).2.2 c4).2.1 c7)))) (fun c8 => (Z_iconst (dX1_isFirst 32) ⟨by decide, by decide⟩ (Z_goto (dX1_isFirst 33) rfl (Z_zreturn (dX1_isFirst 35) rfl (Or.inr rfl) (((h.2.1 c1).2.2 c4).2.2 c8))))))))))))))))))))) (fun c2 => (Z_aload_n (dX1_isFirst 7) rfl (Z_gRC (r := (some 33)) (dX1_isFirst 8) lk_X1_9 sC32 rfl (hR 40) (Z_iload_n (dX1_isFirst 9) rfl (Z_ilC (x := (iv 33 ((x1).toNat))) (dX1_isFirst 10) sC33 (h.2.2 c2).1 rfl (Z_aload_n (dX1_isFirst 11) rfl (Z_gIC (x := (iv 32 5)) (dX1_isFirst 12) lk_X1_42 sC32 (Or.inl rfl) rfl (Z_icmp_ge (dX1_isFirst 13) rfl (fun c9 => (Z_iconst (dX1_isFirst 16) ⟨by decide, by decide⟩ (Z_zreturn (dX1_isFirst 17) rfl (Or.inl rfl) ((h.2.2 c2).2.1 c9)))) (fun c10 => (Z_iconst (dX1_isFirst 14) ⟨by decide, by decide⟩ (Z_goto (dX1_isFirst 15) rfl (Z_zreturn (dX1_isFirst 17) rfl (Or.inr rfl) ((h.2.2 c2).2.2 c10))))))))))))))))))))
theorem C_isFirst {G : ZG} {d : Nat} {iv : Nat → Nat → Int} {K : Option AV → AH → Prop} {rv : Nat → Nat → Option Nat} {x1 x2 : Int} (hR : RC rv) (h1 : 0 ≤ x1 ∧ x1 < 16) (hg : 0 ≤ iv 34 x1.toNat ∧ iv 34 x1.toNat < 8) (h6 : 0 ≤ iv 32 6 ∧ iv 32 6 < 8) (h2 : -1 ≤ x2 ∧ x2 ≤ 1) (h7 : -1 ≤ iv 32 7 ∧ iv 32 7 ≤ 1) (k : K (some (vi (b01 (24 * iv 33 x1.toNat + 3 * iv 34 x1.toNat + x2 < 24 * iv 32 5 + 3 * iv 32 6 + iv 32 7)))) (mkC iv rv)) : Z G mX1_isFirst d 0 0 0 [vr (some 32), vi x1, vi x2] [] (mkC iv rv) K := by
  apply sX1_isFirst_0 hR
  unfold b01 at k
  refine ⟨by omega, fun e => ⟨by omega, fun e2 => ⟨fun z => ?_, fun z => ?_⟩, fun e2 => ⟨by omega, fun z => ?_, fun z => ?_⟩⟩, fun e => ⟨by omega, fun z => ?_, fun z => ?_⟩⟩
  · rw [if_neg (by omega)] at k; exact k
  · rw [if_pos (by omega)] at k; exact k
  · rw [if_neg (by omega)] at k; exact k
  · rw [if_pos (by omega)] at k; exact k
  · rw [if_neg (by omega)] at k; exact k
  · rw [if_pos (by omega)] at k; exact k
set_option maxRecDepth 20000 in
theorem sX1_findLongest_0 {G : ZG} {d : Nat} {iv : Nat → Nat → Int} {K : Option AV → AH → Prop} {rv : Nat → Nat → Option Nat} (hR : RC rv) (h : Z G mX1_findLongest (d + 2) 0 0 7 [vr (some 32), vi 0, vu, vu] [] (mkC (iu iv 32 4 0) rv) K) : Z G mX1_findLongest (d + 2) 0 0 0 [vr (some 32), vu, vu, vu] [] (mkC iv rv) K := (Z_aload_n (dX1_findLongest 0) rfl (Z_iconst (dX1_findLongest 1) ⟨by decide, by decide⟩ (Z_putIC (dX1_findLongest 2) lk_X1_25 sC32 rfl (Or.inl rfl) (Z_iconst (dX1_findLongest 3) ⟨by decide, by decide⟩ (Z_istore_n (dX1_findLongest 4) (Nat.le_of_ble_eq_true rfl) rfl h)))))
set_option maxRecDepth 20000 in
theorem sX1_findLongest_7 {G : ZG} {d : Nat} {iv : Nat → Nat → Int} {K : Option AV → AH → Prop} {rv : Nat → Nat → Option Nat} {x1 : Int} (hR : RC rv) (h : ((iv 32 3) ≤ x1 → (K none (mkC iv rv))) ∧ (x1 < (iv 32 3) → (Z G mX1_findLongest (d + 2) 0 0 17 [vr (some 32), vi x1, vi (-1), vu] [] (mkC iv rv) K))) : Z G mX1_findLongest (d + 2) 0 0 7 [vr (some 32), vi x1, vu, vu] [] (mkC iv rv) K := (Z_iload_n (dX1_findLongest 5) rfl (Z_aload_n (dX1_findLongest 6) rfl (Z_gIC (x := (iv 32 3)) (dX1_findLongest 7) lk_X1_21 sC32 (Or.inl rfl) rfl (Z_icmp_ge (dX1_findLongest 8) rfl (fun c1 => (Z_return (dX1_findLongest 56) rfl (h.1 c1))) (fun c2 => (Z_iconst (dX1_findLongest 9) ⟨by decide, by decide⟩ (Z_istore_n (dX1_findLongest 10) (Nat.le_of_ble_eq_true rfl) rfl (h.2 c2))))))))
set_option maxRecDepth 20000 in
theorem sX1_findLongest_17 {G : ZG} {d : Nat} {iv : Nat → Nat → Int} {K : Option AV → AH → Prop} {rv : Nat → Nat → Option Nat} {x1 x2 : Int} (hR : RC rv) (h : (1 < x2 → ((-2147483648 ≤ (x1 + 1) ∧ (x1 + 1) ≤ 2147483647) ∧ (Z G mX1_findLongest (d + 2) 0 0 7 [vr (some 32), vi (x1 + 1), vu, vu] [] (mkC iv rv) K))) ∧ (x2 ≤ 1 → ((ckU (iv 33) (iv 34) (iv 32 3)) ∧ ((0 ≤ x1 ∧ x1 < iv 32 3) ∧ (((1 : Int) = 1 ∨ (1 : Int) = -1) ∧ ((-1 ≤ x2 ∧ x2 ≤ 1) ∧ ((0 ≤ ((wk (iv 33) (iv 34) (iv 32 3) 1 x2 101 (iv 33 (x1).toNat) (iv 34 (x1).toNat) : Nat) : Int) ∧ ((wk (iv 33) (iv 34) (iv 32 3) 1 x2 101 (iv 33 (x1).toNat) (iv 34 (x1).toNat) : Nat) : Int) < 65536) ∧ (((iv 32 4) < ((pop 16 (((wk (iv 33) (iv 34) (iv 32 3) 1 x2 101 (iv 33 (x1).toNat) (iv 34 (x1).toNat) : Nat) : Int)).toNat : Nat) : Int) → ((0 ≤ x1 ∧ x1 < (16 : Nat)) ∧ ((0 ≤ x1 ∧ x1 < (16 : Nat)) ∧ ((-2147483648 ≤ (x2 + 1) ∧ (x2 + 1) ≤ 2147483647) ∧ (Z G mX1_findLongest (d + 2) 0 0 17 [vr (some 32), vi x1, vi (x2 + 1), vu] [] (mkC (iu (iu (iu (iu iv 32 4 ((pop 16 (((wk (iv 33) (iv 34) (iv 32 3) 1 x2 101 (iv 33 (x1).toNat) (iv 34 (x1).toNat) : Nat) : Int)).toNat : Nat) : Int)) 32 5 (iv 33 ((x1).toNat))) 32 6 (iv 34 ((x1).toNat))) 32 7 x2) rv) K))))) ∧ (((pop 16 (((wk (iv 33) (iv 34) (iv 32 3) 1 x2 101 (iv 33 (x1).toNat) (iv 34 (x1).toNat) : Nat) : Int)).toNat : Nat) : Int) ≤ (iv 32 4) → ((¬ ((pop 16 (((wk (iv 33) (iv 34) (iv 32 3) 1 x2 101 (iv 33 (x1).toNat) (iv 34 (x1).toNat) : Nat) : Int)).toNat : Nat) : Int) = (iv 32 4) → ((-2147483648 ≤ (x2 + 1) ∧ (x2 + 1) ≤ 2147483647) ∧ (Z G mX1_findLongest (d + 2) 0 0 17 [vr (some 32), vi x1, vi (x2 + 1), vu] [] (mkC iv rv) K))) ∧ (((pop 16 (((wk (iv 33) (iv 34) (iv 32 3) 1 x2 101 (iv 33 (x1).toNat) (iv 34 (x1).toNat) : Nat) : Int)).toNat : Nat) : Int) = (iv 32 4) → ((0 ≤ x1 ∧ x1 < 16) ∧ ((0 ≤ iv 34 (x1).toNat ∧ iv 34 (x1).toNat < 8) ∧ ((0 ≤ iv 32 6 ∧ iv 32 6 < 8) ∧ ((-1 ≤ x2 ∧ x2 ≤ 1) ∧ ((-1 ≤ iv 32 7 ∧ iv 32 7 ≤ 1) ∧ ((¬ (24 * iv 33 (x1).toNat + 3 * iv 34 (x1).toNat + x2 < 24 * iv 32 5 + 3 * iv 32 6 + iv 32 7) → ((-2147483648 ≤ (x2 + 1) ∧ (x2 + 1) ≤ 2147483647) ∧ (Z G mX1_findLongest (d + 2) 0 0 17 [vr (some 32), vi x1, vi (x2 + 1), vu] [] (mkC iv rv) K))) ∧ (24 * iv 33 (x1).toNat + 3 * iv 34 (x1).toNat + x2 < 24 * iv 32 5 + 3 * iv 32 6 + iv 32 7 → ((0 ≤ x1 ∧ x1 < (16 : Nat)) ∧ ((0 ≤ x1 ∧ x1 < (16 : Nat)) ∧ ((-2147483648 ≤ (x2 + 1) ∧ (x2 + 1) ≤ 2147483647) ∧ (Z G mX1_findLongest (d + 2) 0 0 17 [vr (some 32), vi x1, vi (x2 + 1), vu] [] (mkC (iu (iu (iu (iu iv 32 4 ((pop 16 (((wk (iv 33) (iv 34) (iv 32 3) 1 x2 101 (iv 33 (x1).toNat) (iv 34 (x1).toNat) : Nat) : Int)).toNat : Nat) : Int)) 32 5 (iv 33 ((x1).toNat))) 32 6 (iv 34 ((x1).toNat))) 32 7 x2) rv) K)))))))))))))))))))))) : Z G mX1_findLongest (d + 2) 0 0 17 [vr (some 32), vi x1, vi x2, vu] [] (mkC iv rv) K := (Z_iload_n (dX1_findLongest 11) rfl (Z_iconst (dX1_findLongest 12) ⟨by decide, by decide⟩ (Z_icmp_gt (dX1_findLongest 13) rfl (fun c1 => (Z_iinc (dX1_findLongest 54) rfl (Nat.le_of_ble_eq_true rfl) (h.1 c1).1 rfl (Z_goto (dX1_findLongest 55) rfl (Z.fg (L' := [vr (some 32), vi (x1 + 1), vu, vu]) (L := [vr (some 32), vi (x1 + 1), vi x2, vu]) ⟨Or.inl rfl, ⟨Or.inl rfl, ⟨Or.inr rfl, ⟨Or.inl rfl, trivial⟩⟩⟩⟩ (h.1 c1).2)))) (fun c2 => (Z_aload_n (dX1_findLongest 14) rfl (Z_iload_n (dX1_findLongest 15) rfl (Z_iconst (dX1_findLongest 16) ⟨by decide, by decide⟩ (Z_iload_n (dX1_findLongest 17) rfl (Z_cVC (As := [vi x1, vi 1, vi x2]) (S := []) (dX1_findLongest 18) lk_X1_28 sC32 (by decide) rfl rfl (Nat.le_of_ble_eq_true rfl) (Nat.le_of_ble_eq_true rfl) (C_walk hR (h.2 c2).1 (h.2 c2).2.1 (h.2 c2).2.2.1 (h.2 c2).2.2.2.1 ((Z_cS (As := [vi ((wk (iv 33) (iv 34) (iv 32 3) 1 x2 101 (iv 33 (x1).toNat) (iv 34 (x1).toNat) : Nat) : Int)]) (S := []) (dX1_findLongest 19) lk_X1_32 rfl (Nat.le_of_ble_eq_true rfl) (Nat.le_of_ble_eq_true rfl) (J_bitCountI  (h.2 c2).2.2.2.2.1 ((Z_istore_n (dX1_findLongest 20) (Nat.le_of_ble_eq_true rfl) rfl (Z_iload_n (dX1_findLongest 21) rfl (Z_aload_n (dX1_findLongest 22) rfl (Z_gIC (x := (iv 32 4)) (dX1_findLongest 23) lk_X1_25 sC32 (Or.inl rfl) rfl (Z_icmp_gt (dX1_findLongest 24) rfl (fun c3 => (Z_aload_n (dX1_findLongest 34) rfl (Z_iload_n (dX1_findLongest 35) rfl (Z_putIC (dX1_findLongest 36) lk_X1_25 sC32 rfl (Or.inl rfl) (Z_aload_n (dX1_findLongest 37) rfl (Z_aload_n (dX1_findLongest 38) rfl (Z_gRC (r := (some 33)) (dX1_findLongest 39) lk_X1_9 sC32 rfl (hR 40) (Z_iload_n (dX1_findLongest 40) rfl (Z_ilC (x := (iv 33 ((x1).toNat))) (dX1_findLongest 41) sC33 ((h.2 c2).2.2.2.2.2.1 c3).1 ((iu_o (by decide)).trans rfl) (Z_putIC (dX1_findLongest 42) lk_X1_42 sC32 rfl (Or.inl rfl) (Z_aload_n (dX1_findLongest 43) rfl (Z_aload_n (dX1_findLongest 44) rfl (Z_gRC (r := (some 34)) (dX1_findLongest 45) lk_X1_15 sC32 rfl (hR 41) (Z_iload_n (dX1_findLongest 46) rfl (Z_ilC (x := (iv 34 ((x1).toNat))) (dX1_findLongest 47) sC34 ((h.2 c2).2.2.2.2.2.1 c3).2.1 ((iu_o (by decide)).trans ((iu_o (by decide)).trans rfl)) (Z_putIC (dX1_findLongest 48) lk_X1_45 sC32 rfl (Or.inl rfl) (Z_aload_n (dX1_findLongest 49) rfl (Z_iload_n (dX1_findLongest 50) rfl (Z_putIC (dX1_findLongest 51) lk_X1_48 sC32 rfl (Or.inl rfl) (Z_iinc (dX1_findLongest 52) rfl (Nat.le_of_ble_eq_true rfl) ((h.2 c2).2.2.2.2.2.1 c3).2.2.1 rfl (Z_goto (dX1_findLongest 53) rfl (Z.fg (L' := [vr (some 32), vi x1, vi (x2 + 1), vu]) (L := [vr (some 32), vi x1, vi (x2 + 1), vi ((pop 16 (((wk (iv 33) (iv 34) (iv 32 3) 1 x2 101 (iv 33 (x1).toNat) (iv 34 (x1).toNat) : Nat) : Int)).toNat : Nat) : Int)]) ⟨Or.inl rfl, ⟨Or.inl rfl, ⟨Or.inl rfl, ⟨Or.inr rfl, trivial⟩⟩⟩⟩ ((h.2 c2).2.2.2.2.2.1 c3).2.2.2)))))))))))))))))))))) (fun c4 => (Z_iload_n (dX1_findLongest 25) rfl (Z_aload_n (dX1_findLongest 26) rfl (Z_gIC (x := (iv 32 4)) (dX1_findLongest 27) lk_X1_25 sC32 (Or.inl rfl) rfl (Z_icmp_ne (dX1_findLongest 28) rfl (fun c5 => (Z_iinc (dX1_findLongest 52) rfl (Nat.le_of_ble_eq_true rfl) (((h.2 c2).2.2.2.2.2.2 c4).1 c5).1 rfl (Z_goto (dX1_findLongest 53) rfl (Z.fg (L' := [vr (some 32), vi x1, vi (x2 + 1), vu]) (L := [vr (some 32), vi x1, vi (x2 + 1), vi ((pop 16 (((wk (iv 33) (iv 34) (iv 32 3) 1 x2 101 (iv 33 (x1).toNat) (iv 34 (x1).toNat) : Nat) : Int)).toNat : Nat) : Int)]) ⟨Or.inl rfl, ⟨Or.inl rfl, ⟨Or.inl rfl, ⟨Or.inr rfl, trivial⟩⟩⟩⟩ (((h.2 c2).2.2.2.2.2.2 c4).1 c5).2)))) (fun c6 => (Z_aload_n (dX1_findLongest 29) rfl (Z_iload_n (dX1_findLongest 30) rfl (Z_iload_n (dX1_findLongest 31) rfl (Z_cVC (As := [vi x1, vi x2]) (S := []) (dX1_findLongest 32) lk_X1_38 sC32 (by decide) rfl rfl (Nat.le_of_ble_eq_true rfl) (Nat.le_of_ble_eq_true rfl) (C_isFirst hR (((h.2 c2).2.2.2.2.2.2 c4).2 c6).1 (((h.2 c2).2.2.2.2.2.2 c4).2 c6).2.1 (((h.2 c2).2.2.2.2.2.2 c4).2 c6).2.2.1 (((h.2 c2).2.2.2.2.2.2 c4).2 c6).2.2.2.1 (((h.2 c2).2.2.2.2.2.2 c4).2 c6).2.2.2.2.1 ((Z_if_eq (dX1_findLongest 33) rfl (fun c7 => (Z_iinc (dX1_findLongest 52) rfl (Nat.le_of_ble_eq_true rfl) ((((h.2 c2).2.2.2.2.2.2 c4).2 c6).2.2.2.2.2.1 (b01_0.mp c7)).1 rfl (Z_goto (dX1_findLongest 53) rfl (Z.fg (L' := [vr (some 32), vi x1, vi (x2 + 1), vu]) (L := [vr (some 32), vi x1, vi (x2 + 1), vi ((pop 16 (((wk (iv 33) (iv 34) (iv 32 3) 1 x2 101 (iv 33 (x1).toNat) (iv 34 (x1).toNat) : Nat) : Int)).toNat : Nat) : Int)]) ⟨Or.inl rfl, ⟨Or.inl rfl, ⟨Or.inl rfl, ⟨Or.inr rfl, trivial⟩⟩⟩⟩ ((((h.2 c2).2.2.2.2.2.2 c4).2 c6).2.2.2.2.2.1 (b01_0.mp c7)).2)))) (fun c8 => (Z_aload_n (dX1_findLongest 34) rfl (Z_iload_n (dX1_findLongest 35) rfl (Z_putIC (dX1_findLongest 36) lk_X1_25 sC32 rfl (Or.inl rfl) (Z_aload_n (dX1_findLongest 37) rfl (Z_aload_n (dX1_findLongest 38) rfl (Z_gRC (r := (some 33)) (dX1_findLongest 39) lk_X1_9 sC32 rfl (hR 40) (Z_iload_n (dX1_findLongest 40) rfl (Z_ilC (x := (iv 33 ((x1).toNat))) (dX1_findLongest 41) sC33 ((((h.2 c2).2.2.2.2.2.2 c4).2 c6).2.2.2.2.2.2 (b01_n.mp c8)).1 ((iu_o (by decide)).trans rfl) (Z_putIC (dX1_findLongest 42) lk_X1_42 sC32 rfl (Or.inl rfl) (Z_aload_n (dX1_findLongest 43) rfl (Z_aload_n (dX1_findLongest 44) rfl (Z_gRC (r := (some 34)) (dX1_findLongest 45) lk_X1_15 sC32 rfl (hR 41) (Z_iload_n (dX1_findLongest 46) rfl (Z_ilC (x := (iv 34 ((x1).toNat))) (dX1_findLongest 47) sC34 ((((h.2 c2).2.2.2.2.2.2 c4).2 c6).2.2.2.2.2.2 (b01_n.mp c8)).2.1 ((iu_o (by decide)).trans ((iu_o (by decide)).trans rfl)) (Z_putIC (dX1_findLongest 48) lk_X1_45 sC32 rfl (Or.inl rfl) (Z_aload_n (dX1_findLongest 49) rfl (Z_iload_n (dX1_findLongest 50) rfl (Z_putIC (dX1_findLongest 51) lk_X1_48 sC32 rfl (Or.inl rfl) (Z_iinc (dX1_findLongest 52) rfl (Nat.le_of_ble_eq_true rfl) ((((h.2 c2).2.2.2.2.2.2 c4).2 c6).2.2.2.2.2.2 (b01_n.mp c8)).2.2.1 rfl (Z_goto (dX1_findLongest 53) rfl (Z.fg (L' := [vr (some 32), vi x1, vi (x2 + 1), vu]) (L := [vr (some 32), vi x1, vi (x2 + 1), vi ((pop 16 (((wk (iv 33) (iv 34) (iv 32 3) 1 x2 101 (iv 33 (x1).toNat) (iv 34 (x1).toNat) : Nat) : Int)).toNat : Nat) : Int)]) ⟨Or.inl rfl, ⟨Or.inl rfl, ⟨Or.inl rfl, ⟨Or.inr rfl, trivial⟩⟩⟩⟩ ((((h.2 c2).2.2.2.2.2.2 c4).2 c6).2.2.2.2.2.2 (b01_n.mp c8)).2.2.2))))))))))))))))))))))))))))))))))))))))))))))))))))))
/-- the number of the line of a click and a slant -/
def nmQ (f g : Nat → Int) (i : Int) : Int := 24 * f (i / 3).toNat + 3 * g (i / 3).toNat + i % 3
def lgF (iv v : Nat → Nat → Int) : Prop := ∀ i j, ¬ (i = 32 ∧ (j = 4 ∨ j = 5 ∨ j = 6 ∨ j = 7)) → v i j = iv i j
def lgI (iv v : Nat → Nat → Int) (F : Int → Int) (q : Int) : Prop := lgF iv v ∧ 0 ≤ v 32 4 ∧ (∀ i : Int, 0 ≤ i → i < q → F (nmQ (iv 33) (iv 34) i) ≤ v 32 4) ∧ ((q = 0 ∧ v 32 4 = 0) ∨ ∃ i : Int, (0 ≤ i ∧ i < q) ∧ (v 32 5 = iv 33 (i / 3).toNat ∧ v 32 6 = iv 34 (i / 3).toNat ∧ v 32 7 = i % 3 - 1) ∧ F (nmQ (iv 33) (iv 34) i) = v 32 4 ∧ ∀ i' : Int, 0 ≤ i' → i' < q → F (nmQ (iv 33) (iv 34) i') = v 32 4 → nmQ (iv 33) (iv 34) i ≤ nmQ (iv 33) (iv 34) i')
def lgP (v : Nat → Nat → Int) (a b c e : Int) : Nat → Nat → Int := iu (iu (iu (iu v 32 4 a) 32 5 b) 32 6 c) 32 7 e
theorem lgP_f {iv v : Nat → Nat → Int} {a b c e : Int} (h : lgF iv v) : lgF iv (lgP v a b c e) := by
  intro i j q
  rw [← h i j q]
  unfold lgP iu
  rw [if_neg (by omega), if_neg (by omega), if_neg (by omega), if_neg (by omega)]
theorem lgI_put {iv v : Nat → Nat → Int} {F : Int → Int} {q : Int} (h : lgI iv v F q) (hq : 0 ≤ q) (hL : 1 ≤ F (nmQ (iv 33) (iv 34) q)) (c : v 32 4 < F (nmQ (iv 33) (iv 34) q) ∨ (F (nmQ (iv 33) (iv 34) q) = v 32 4 ∧ nmQ (iv 33) (iv 34) q < 24 * v 32 5 + 3 * v 32 6 + v 32 7 + 1)) : lgI iv (lgP v (F (nmQ (iv 33) (iv 34) q)) (iv 33 (q / 3).toNat) (iv 34 (q / 3).toNat) (q % 3 - 1)) F (q + 1) := by
  obtain ⟨h1, h2, h3, h4⟩ := h
  have e4 : ∀ a b c e, lgP v a b c e 32 4 = a := fun _ _ _ _ => rfl
  have e5 : ∀ a b c e, lgP v a b c e 32 5 = b := fun _ _ _ _ => rfl
  have e6 : ∀ a b c e, lgP v a b c e 32 6 = c := fun _ _ _ _ => rfl
  have e7 : ∀ a b c e, lgP v a b c e 32 7 = e := fun _ _ _ _ => rfl
  refine ⟨lgP_f h1, by rw [e4]; omega, fun i a b => ?_, Or.inr ⟨q, by omega, ⟨e5 _ _ _ _, e6 _ _ _ _, e7 _ _ _ _⟩, (e4 _ _ _ _).symm, fun i a b z => ?_⟩⟩
  · rw [e4]
    by_cases g : i = q
    · subst g; exact Int.le_refl _
    · have := h3 i a (by omega); omega
  · rw [e4] at z
    by_cases g : i = q
    · subst g; exact Int.le_refl _
    · have w := h3 i a (by omega)
      rcases c with c | c
      · omega
      · rcases h4 with ⟨_, y⟩ | ⟨j, hj, ⟨f5, f6, f7⟩, ej, mj⟩
        · omega
        · have := mj i a (by omega) (by omega)
          unfold nmQ at this c ⊢
          omega
theorem lgI_no {iv v : Nat → Nat → Int} {F : Int → Int} {q : Int} (h : lgI iv v F q) (hq : 0 ≤ q) (hL : 1 ≤ F (nmQ (iv 33) (iv 34) q)) (c : F (nmQ (iv 33) (iv 34) q) < v 32 4 ∨ (F (nmQ (iv 33) (iv 34) q) = v 32 4 ∧ ¬ nmQ (iv 33) (iv 34) q < 24 * v 32 5 + 3 * v 32 6 + v 32 7 + 1)) : lgI iv v F (q + 1) := by
  obtain ⟨h1, h2, h3, h4⟩ := h
  refine ⟨h1, h2, fun i a b => ?_, Or.inr ?_⟩
  · by_cases g : i = q
    · subst g; omega
    · exact h3 i a (by omega)
  · rcases h4 with ⟨_, y⟩ | ⟨j, hj, ⟨f5, f6, f7⟩, ej, mj⟩
    · omega
    · refine ⟨j, by omega, ⟨f5, f6, f7⟩, ej, fun i a b z => ?_⟩
      by_cases g : i = q
      · subst g
        rcases c with c | c
        · omega
        · unfold nmQ at c ⊢
          omega
      · exact mj i a (by omega) z
theorem lnF_1 {f g : Nat → Int} {n s c : Int} (h : ckU f g n) (hc : 0 ≤ c ∧ c < n) : 1 ≤ lnF f g n (f c.toNat) (g c.toNat) s := by
  have r := h.2.1 c hc.1 hc.2
  have e := wk_ln (s := s) h r.1 r.2
  unfold lnF at *
  rcases ffirst_r (P := fun k => ckA f g n (f c.toNat + k) ((g c.toNat + s * k) % 8) = -1) 101 0 (by omega) with q | ⟨a, b, q⟩
  · omega
  · apply Classical.byContradiction
    intro z
    rw [show ffirst (fun k => ckA f g n (f c.toNat + k) ((g c.toNat + s * k) % 8) = -1) 0 101 = 0 by omega, Int.mul_zero, show f c.toNat + 0 = f c.toNat by omega, show (g c.toNat + 0) % 8 = g c.toNat by omega, ckA_at h hc] at q
    omega
theorem lgI_end {iv v : Nat → Nat → Int} (h : ckU (iv 33) (iv 34) (iv 32 3)) (h0 : 0 < iv 32 3) (hI : lgI iv v (lnQ (iv 33) (iv 34) (iv 32 3)) (3 * iv 32 3)) : v 32 4 = (flb (lnQ (iv 33) (iv 34) (iv 32 3)) 2400).1 ∧ (flb (lnQ (iv 33) (iv 34) (iv 32 3)) 2400).2 = 24 * v 32 5 + 3 * v 32 6 + (v 32 7 + 1) ∧ (0 ≤ v 32 6 ∧ v 32 6 < 8) ∧ (-1 ≤ v 32 7 ∧ v 32 7 ≤ 1) := by
  obtain ⟨h1, h2, h3, h4⟩ := hI
  obtain ⟨r0, r1, r2⟩ := flb_r (F := lnQ (iv 33) (iv 34) (iv 32 3)) 2400
  generalize hF : lnQ (iv 33) (iv 34) (iv 32 3) = F at *
  have nm : ∀ i : Int, 0 ≤ i → i < 3 * iv 32 3 → (0 ≤ nmQ (iv 33) (iv 34) i ∧ nmQ (iv 33) (iv 34) i < 2400) ∧ 1 ≤ F (nmQ (iv 33) (iv 34) i) := by
    intro i a b
    have r := h.2.1 (i / 3) (by omega) (by omega)
    refine ⟨by unfold nmQ; omega, ?_⟩
    unfold nmQ
    rw [← hF, show i % 3 = (i % 3 - 1) + 1 by omega, lnQ_at r.2 (by omega)]
    exact lnF_1 h (by omega)
  rcases h4 with ⟨y, _⟩ | ⟨j, hj, ⟨f5, f6, f7⟩, ej, mj⟩
  · omega
  · have nj := nm j hj.1 hj.2
    have u := r1 _ nj.1.1 (by omega)
    rcases r2 with ⟨_, z⟩ | ⟨hc, ec, fc⟩
    · omega
    · have lc : 1 ≤ F (flb F 2400).2 := by omega
      generalize hcc : (flb F 2400).2 = c at *
      -- a click stands there
      have ck : ckA (iv 33) (iv 34) (iv 32 3) (c / 24) (c / 3 % 8) ≠ -1 := by
        intro z
        rw [← hF] at lc
        unfold lnQ lnF at lc
        rw [show (101 : Nat) = 100 + 1 from rfl] at lc
        unfold ffirst at lc
        rw [if_pos (by rw [Int.mul_zero, Int.add_zero, Int.add_zero, show c / 3 % 8 % 8 = c / 3 % 8 by omega]; exact z)] at lc
        omega
      rcases ckA_c (f := iv 33) (g := iv 34) (n := iv 32 3) (t := c / 24) (p := c / 3 % 8) h.1.1 with e | ⟨a, e1, e2⟩
      · exact absurd e ck
      · generalize ckA (iv 33) (iv 34) (iv 32 3) (c / 24) (c / 3 % 8) = x at a e1 e2
        have ex : nmQ (iv 33) (iv 34) (3 * x + c % 3) = c := by
          unfold nmQ
          rw [show (3 * x + c % 3) / 3 = x by omega, show (3 * x + c % 3) % 3 = c % 3 by omega, e1, e2]
          omega
        have u2 := h3 (3 * x + c % 3) (by omega) (by omega)
        rw [ex] at u2
        have eB : v 32 4 = (flb F 2400).1 := by omega
        have u3 := mj (3 * x + c % 3) (by omega) (by omega) (by rw [ex]; omega)
        rw [ex] at u3
        have u4 : c ≤ nmQ (iv 33) (iv 34) j := by
          apply Classical.byContradiction
          intro z
          have := fc _ nj.1.1 (by omega)
          omega
        have r := h.2.1 (j / 3) (by omega) (by omega)
        refine ⟨eB, ?_, by omega, by omega⟩
        unfold nmQ at u3 u4
        omega
theorem C_findLongest {G : ZG} {d : Nat} {iv : Nat → Nat → Int} {K : Option AV → AH → Prop} {rv : Nat → Nat → Option Nat} (hR : RC rv) (h : ckU (iv 33) (iv 34) (iv 32 3)) (h0 : 0 < iv 32 3) (k : ∀ v : Nat → Nat → Int, lgF iv v ∧ (v 32 4 = (flb (lnQ (iv 33) (iv 34) (iv 32 3)) 2400).1 ∧ (flb (lnQ (iv 33) (iv 34) (iv 32 3)) 2400).2 = 24 * v 32 5 + 3 * v 32 6 + (v 32 7 + 1) ∧ (0 ≤ v 32 6 ∧ v 32 6 < 8) ∧ (-1 ≤ v 32 7 ∧ v 32 7 ≤ 1)) → K none (mkC v rv)) : Z G mX1_findLongest (d + 2) 0 0 0 [vr (some 32), vu, vu, vu] [] (mkC iv rv) K := by
  apply sX1_findLongest_0 hR
  have key := fun v => lgI_end (v := v) h h0
  have k := fun v q => k v ⟨(show lgI iv v _ _ from q).1, key v q⟩
  clear key
  have l1 : ∀ i : Int, 0 ≤ i → i < 3 * iv 32 3 → 1 ≤ lnQ (iv 33) (iv 34) (iv 32 3) (nmQ (iv 33) (iv 34) i) := by
    intro i a b
    have r := h.2.1 (i / 3) (by omega) (by omega)
    unfold nmQ
    rw [show i % 3 = (i % 3 - 1) + 1 by omega, lnQ_at r.2 (by omega)]
    exact lnF_1 h (by omega)
  have n16 := h.1
  refine lp_up (P := fun j v => Z G mX1_findLongest (d + 2) 0 0 7 [vr (some 32), vi j, vu, vu] [] (mkC v rv) K) (iv 32 3) (fun j v => 0 ≤ j ∧ lgI iv v (lnQ (iv 33) (iv 34) (iv 32 3)) (3 * j)) ?_ ?_ 0 _ (by omega) ⟨by omega, fun i j q => by unfold iu; rw [if_neg (by omega)], Int.le_refl _, fun i a b => by omega, Or.inl ⟨rfl, rfl⟩⟩
  · rintro v ⟨-, q⟩
    apply sX1_findLongest_7 hR
    rw [q.1 32 3 (by omega)]
    exact ⟨fun _ => k v q, fun z => by omega⟩
  · rintro j v hj ⟨j0, q⟩ ih
    apply sX1_findLongest_7 hR
    rw [q.1 32 3 (by omega)]
    refine ⟨fun z => by omega, fun _ => ?_⟩
    refine lp_up (P := fun s v => Z G mX1_findLongest (d + 2) 0 0 17 [vr (some 32), vi j, vi s, vu] [] (mkC v rv) K) 2 (fun s v => -1 ≤ s ∧ lgI iv v (lnQ (iv 33) (iv 34) (iv 32 3)) (3 * j + (s + 1))) ?_ ?_ (-1) v (by omega) ⟨by omega, by rw [show 3 * j + (-1 + 1) = 3 * j by omega]; exact q⟩
    · rintro v ⟨-, q⟩
      apply sX1_findLongest_17 hR
      exact ⟨fun _ => ⟨by omega, ih v ⟨by omega, by rw [show 3 * (j + 1) = 3 * j + (2 + 1) by omega]; exact q⟩⟩, fun z => by omega⟩
    · rintro s v hs ⟨s0, q⟩ ihs
      apply sX1_findLongest_17 hR
      have r33 : v 33 = iv 33 := by funext i; exact q.1 33 i (by omega)
      have r34 : v 34 = iv 34 := by funext i; exact q.1 34 i (by omega)
      rw [r33, r34, q.1 32 3 (by omega)]
      have r := h.2.1 j j0 hj
      have L1 := l1 (3 * j + (s + 1)) (by omega) (by omega)
      have eN : nmQ (iv 33) (iv 34) (3 * j + (s + 1)) = 24 * iv 33 j.toNat + 3 * iv 34 j.toNat + (s + 1) := by
        unfold nmQ
        rw [show (3 * j + (s + 1)) / 3 = j by omega]; omega
      have eP : ((pop 16 (((wk (iv 33) (iv 34) (iv 32 3) 1 s 101 (iv 33 j.toNat) (iv 34 j.toNat) : Nat) : Int)).toNat : Nat) : Int) = lnQ (iv 33) (iv 34) (iv 32 3) (nmQ (iv 33) (iv 34) (3 * j + (s + 1))) := by
        rw [eN, lnQ_at r.2 (by omega), ← wk_ln h r.1 r.2, Int.toNat_natCast]
      rw [eP]
      have wl := wk_lt (f := iv 33) (g := iv 34) (w := 1) (s := s) n16 (Or.inl rfl) 101 (iv 33 j.toNat) (iv 34 j.toNat)
      have put : ∀ (c : v 32 4 < lnQ (iv 33) (iv 34) (iv 32 3) (nmQ (iv 33) (iv 34) (3 * j + (s + 1))) ∨ (lnQ (iv 33) (iv 34) (iv 32 3) (nmQ (iv 33) (iv 34) (3 * j + (s + 1))) = v 32 4 ∧ nmQ (iv 33) (iv 34) (3 * j + (s + 1)) < 24 * v 32 5 + 3 * v 32 6 + v 32 7 + 1)), Z G mX1_findLongest (d + 2) 0 0 17 [vr (some 32), vi j, vi (s + 1), vu] [] (mkC (iu (iu (iu (iu v 32 4 (lnQ (iv 33) (iv 34) (iv 32 3) (nmQ (iv 33) (iv 34) (3 * j + (s + 1))))) 32 5 (iv 33 j.toNat)) 32 6 (iv 34 j.toNat)) 32 7 s) rv) K := by
        intro c
        refine ihs _ ⟨by omega, ?_⟩
        have t := lgI_put q (by omega) L1 c
        rw [show (3 * j + (s + 1)) / 3 = j by omega, show (3 * j + (s + 1)) % 3 - 1 = s by omega] at t
        rw [show 3 * j + (s + 1 + 1) = 3 * j + (s + 1) + 1 by omega]
        exact t
      have no : ∀ (c : lnQ (iv 33) (iv 34) (iv 32 3) (nmQ (iv 33) (iv 34) (3 * j + (s + 1))) < v 32 4 ∨ (lnQ (iv 33) (iv 34) (iv 32 3) (nmQ (iv 33) (iv 34) (3 * j + (s + 1))) = v 32 4 ∧ ¬ nmQ (iv 33) (iv 34) (3 * j + (s + 1)) < 24 * v 32 5 + 3 * v 32 6 + v 32 7 + 1)), Z G mX1_findLongest (d + 2) 0 0 17 [vr (some 32), vi j, vi (s + 1), vu] [] (mkC v rv) K := by
        intro c
        refine ihs _ ⟨by omega, ?_⟩
        have t := lgI_no q (by omega) L1 c
        rw [show 3 * j + (s + 1 + 1) = 3 * j + (s + 1) + 1 by omega]
        exact t
      have rg : ∀ (e : lnQ (iv 33) (iv 34) (iv 32 3) (nmQ (iv 33) (iv 34) (3 * j + (s + 1))) = v 32 4), (0 ≤ v 32 6 ∧ v 32 6 < 8) ∧ (-1 ≤ v 32 7 ∧ v 32 7 ≤ 1) := by
        intro e
        rcases q.2.2.2 with ⟨_, y⟩ | ⟨i, hi, ⟨f5, f6, f7⟩, -, -⟩
        · omega
        · have := h.2.1 (i / 3) (by omega) (by omega)
          omega
      refine ⟨fun z => by omega, fun _ => ⟨h, ⟨j0, hj⟩, Or.inl rfl, by omega, by omega, fun c => ⟨by omega, by omega, by omega, put (Or.inl c)⟩, fun c => ⟨fun n => ⟨by omega, no (Or.inl (by omega))⟩, fun e => ⟨by omega, r.2, (rg e).1, by omega, (rg e).2, fun n => ⟨by omega, no (Or.inr ⟨e, by omega⟩)⟩, fun n => ⟨by omega, by omega, by omega, put (Or.inr ⟨e, by omega⟩)⟩⟩⟩⟩⟩
set_option maxRecDepth 20000 in
theorem sX11_longest_0 {G : ZG} {d : Nat} {iv : Nat → Nat → Int} {K : Option AV → AH → Prop} {rv : Nat → Nat → Option Nat} (hR : RC rv) (h : (¬ (iv 32 3) = 0 → ((ckU (iv 33) (iv 34) (iv 32 3)) ∧ ((0 < iv 32 3) ∧ ((∀ (v3 : Nat → Nat → Int), (lgF iv v3 ∧ (v3 32 4 = (flb (lnQ (iv 33) (iv 34) (iv 32 3)) 2400).1 ∧ (flb (lnQ (iv 33) (iv 34) (iv 32 3)) 2400).2 = 24 * v3 32 5 + 3 * v3 32 6 + (v3 32 7 + 1) ∧ (0 ≤ v3 32 6 ∧ v3 32 6 < 8) ∧ (-1 ≤ v3 32 7 ∧ v3 32 7 ≤ 1))) → (K (some (vi (v3 32 4))) (mkC (iu v3 0 17 0) rv))))))) ∧ ((iv 32 3) = 0 → (K (some (vi (-1))) (mkC (iu iv 0 17 6) rv)))) : Z G mX11_longest (d + 3) 0 0 0 [vr (some 0)] [] (mkC iv rv) K := (Z_aload_n (dX11_longest 0) rfl (Z_gRC (r := (some 32)) (dX11_longest 1) lk_X11_58 sC0 rfl (hR 6) (Z_gIC (x := (iv 32 3)) (dX11_longest 2) lk_X11_261 sC32 (Or.inl rfl) rfl (Z_if_ne (dX11_longest 3) rfl (fun c1 => (Z_aload_n (dX11_longest 8) rfl (Z_gRC (r := (some 32)) (dX11_longest 9) lk_X11_58 sC0 rfl (hR 6) (Z_cVC (As := []) (S := []) (dX11_longest 10) lk_X11_266 sC32 (by decide) rfl rfl (Nat.le_of_ble_eq_true rfl) (Nat.le_of_ble_eq_true rfl) (C_findLongest hR (h.1 c1).1 (h.1 c1).2.1 (fun v3 c4 => (Z_aload_n (dX11_longest 11) rfl (Z_aload_n (dX11_longest 12) rfl (Z_gRC (r := (some 32)) (dX11_longest 13) lk_X11_58 sC0 rfl (hR 6) (Z_gIC (x := (v3 32 4)) (dX11_longest 14) lk_X11_269 sC32 (Or.inl rfl) rfl (Z_cVC (As := [vi (v3 32 4)]) (S := []) (dX11_longest 15) lk_X11_166 sC0 (by decide) rfl rfl (Nat.le_of_ble_eq_true rfl) (Nat.le_of_ble_eq_true rfl) (C_give hR ((Z_ireturn (dX11_longest 16) rfl ((h.1 c1).2.2 v3 c4))))))))))))))) (fun c2 => (Z_aload_n (dX11_longest 4) rfl (Z_bipush (dX11_longest 5) ⟨by decide, by decide⟩ (Z_cVC (As := [vi 6]) (S := []) (dX11_longest 6) lk_X11_132 sC0 (by decide) rfl rfl (Nat.le_of_ble_eq_true rfl) (Nat.le_of_ble_eq_true rfl) (C_giveNone hR ((Z_ireturn (dX11_longest 7) rfl (h.2 c2))))))))))))
set_option maxRecDepth 20000 in
theorem sX11_line_0 {G : ZG} {d : Nat} {iv : Nat → Nat → Int} {K : Option AV → AH → Prop} {rv : Nat → Nat → Option Nat} {x1 : Int} (hR : RC rv) (h : (0 ≤ x1 ∧ x1 ≤ 2 → ((¬ (iv 32 3) = 0 → ((ckU (iv 33) (iv 34) (iv 32 3)) ∧ ((0 < iv 32 3) ∧ ((∀ (v5 : Nat → Nat → Int), (lgF iv v5 ∧ (v5 32 4 = (flb (lnQ (iv 33) (iv 34) (iv 32 3)) 2400).1 ∧ (flb (lnQ (iv 33) (iv 34) (iv 32 3)) 2400).2 = 24 * v5 32 5 + 3 * v5 32 6 + (v5 32 7 + 1) ∧ (0 ≤ v5 32 6 ∧ v5 32 6 < 8) ∧ (-1 ≤ v5 32 7 ∧ v5 32 7 ≤ 1))) → ((¬ x1 = 0 → ((¬ x1 = 1 → (K (some (vi (v5 32 7))) (mkC (iu v5 0 17 0) rv))) ∧ (x1 = 1 → (K (some (vi (v5 32 6))) (mkC (iu v5 0 17 0) rv))))) ∧ (x1 = 0 → (K (some (vi (v5 32 5))) (mkC (iu v5 0 17 0) rv))))))))) ∧ ((iv 32 3) = 0 → (K (some (vi (-1))) (mkC (iu iv 0 17 6) rv))))) ∧ (¬ (0 ≤ x1 ∧ x1 ≤ 2) → (K (some (vi (-1))) (mkC (iu iv 0 17 1) rv)))) : Z G mX11_line (d + 3) 0 0 0 [vr (some 0), vi x1] [] (mkC iv rv) K := (Z_iload_n (dX11_line 0) rfl (Z_iconst (dX11_line 1) ⟨by decide, by decide⟩ (Z_iconst (dX11_line 2) ⟨by decide, by decide⟩ (Z_cS (As := [vi x1, vi 0, vi 2]) (S := []) (dX11_line 3) lk_X11_109 rfl (Nat.le_of_ble_eq_true rfl) (Nat.le_of_ble_eq_true rfl) (C_within hR ((Z_if_ne (dX11_line 4) rfl (fun c1 => (Z_aload_n (dX11_line 9) rfl (Z_gRC (r := (some 32)) (dX11_line 10) lk_X11_58 sC0 rfl (hR 6) (Z_gIC (x := (iv 32 3)) (dX11_line 11) lk_X11_261 sC32 (Or.inl rfl) rfl (Z_if_ne (dX11_line 12) rfl (fun c3 => (Z_aload_n (dX11_line 17) rfl (Z_gRC (r := (some 32)) (dX11_line 18) lk_X11_58 sC0 rfl (hR 6) (Z_cVC (As := []) (S := []) (dX11_line 19) lk_X11_266 sC32 (by decide) rfl rfl (Nat.le_of_ble_eq_true rfl) (Nat.le_of_ble_eq_true rfl) (C_findLongest hR ((h.1 (b01_n.mp c1)).1 c3).1 ((h.1 (b01_n.mp c1)).1 c3).2.1 (fun v5 c6 => (Z_iload_n (dX11_line 20) rfl (Z_if_ne (dX11_line 21) rfl (fun c7 => (Z_aload_n (dX11_line 28) rfl (Z_iload_n (dX11_line 29) rfl (Z_iconst (dX11_line 30) ⟨by decide, by decide⟩ (Z_icmp_ne (dX11_line 31) rfl (fun c9 => (Z_aload_n (dX11_line 36) rfl (Z_gRC (r := (some 32)) (dX11_line 37) lk_X11_58 sC0 rfl (hR 6) (Z_gIC (x := (v5 32 7)) (dX11_line 38) lk_X11_278 sC32 (Or.inl rfl) rfl (Z_cVC (As := [vi (v5 32 7)]) (S := []) (dX11_line 39) lk_X11_166 sC0 (by decide) rfl rfl (Nat.le_of_ble_eq_true rfl) (Nat.le_of_ble_eq_true rfl) (C_give hR ((Z_ireturn (dX11_line 40) rfl (((((h.1 (b01_n.mp c1)).1 c3).2.2 v5 c6).1 c7).1 c9))))))))) (fun c10 => (Z_aload_n (dX11_line 32) rfl (Z_gRC (r := (some 32)) (dX11_line 33) lk_X11_58 sC0 rfl (hR 6) (Z_gIC (x := (v5 32 6)) (dX11_line 34) lk_X11_275 sC32 (Or.inl rfl) rfl (Z_goto (dX11_line 35) rfl (Z_cVC (As := [vi (v5 32 6)]) (S := []) (dX11_line 39) lk_X11_166 sC0 (by decide) rfl rfl (Nat.le_of_ble_eq_true rfl) (Nat.le_of_ble_eq_true rfl) (C_give hR ((Z_ireturn (dX11_line 40) rfl (((((h.1 (b01_n.mp c1)).1 c3).2.2 v5 c6).1 c7).2 c10))))))))))))))) (fun c8 => (Z_aload_n (dX11_line 22) rfl (Z_aload_n (dX11_line 23) rfl (Z_gRC (r := (some 32)) (dX11_line 24) lk_X11_58 sC0 rfl (hR 6) (Z_gIC (x := (v5 32 5)) (dX11_line 25) lk_X11_272 sC32 (Or.inl rfl) rfl (Z_cVC (As := [vi (v5 32 5)]) (S := []) (dX11_line 26) lk_X11_166 sC0 (by decide) rfl rfl (Nat.le_of_ble_eq_true rfl) (Nat.le_of_ble_eq_true rfl) (C_give hR ((Z_ireturn (dX11_line 27) rfl ((((h.1 (b01_n.mp c1)).1 c3).2.2 v5 c6).2 c8)))))))))))))))))) (fun c4 => (Z_aload_n (dX11_line 13) rfl (Z_bipush (dX11_line 14) ⟨by decide, by decide⟩ (Z_cVC (As := [vi 6]) (S := []) (dX11_line 15) lk_X11_132 sC0 (by decide) rfl rfl (Nat.le_of_ble_eq_true rfl) (Nat.le_of_ble_eq_true rfl) (C_giveNone hR ((Z_ireturn (dX11_line 16) rfl ((h.1 (b01_n.mp c1)).2 c4))))))))))))) (fun c2 => (Z_aload_n (dX11_line 5) rfl (Z_iconst (dX11_line 6) ⟨by decide, by decide⟩ (Z_cVC (As := [vi 1]) (S := []) (dX11_line 7) lk_X11_132 sC0 (by decide) rfl rfl (Nat.le_of_ble_eq_true rfl) (Nat.le_of_ble_eq_true rfl) (C_giveNone hR ((Z_ireturn (dX11_line 8) rfl (h.2 (b01_0.mp c2))))))))))))))))

