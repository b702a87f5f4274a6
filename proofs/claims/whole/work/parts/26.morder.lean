/-! ===== the order of songs: the model ===== -/
set_option maxRecDepth 20000 in
theorem sX12_isAhead_0 {G : ZG} {d : Nat} {iv : Nat → Nat → Int} {K : Option AV → AH → Prop} {x1 x2 : Int} (h : (0 ≤ x1 ∧ x1 < (10 : Nat)) ∧ ((0 ≤ x2 ∧ x2 < (10 : Nat)) ∧ ((-2147483648 ≤ ((iv 5 ((x1).toNat)) * (iv 4 ((x2).toNat))) ∧ ((iv 5 ((x1).toNat)) * (iv 4 ((x2).toNat))) ≤ 2147483647) ∧ ((0 ≤ x2 ∧ x2 < (10 : Nat)) ∧ ((0 ≤ x1 ∧ x1 < (10 : Nat)) ∧ ((-2147483648 ≤ ((iv 5 ((x2).toNat)) * (iv 4 ((x1).toNat))) ∧ ((iv 5 ((x2).toNat)) * (iv 4 ((x1).toNat))) ≤ 2147483647) ∧ ((((iv 5 ((x2).toNat)) * (iv 4 ((x1).toNat))) < ((iv 5 ((x1).toNat)) * (iv 4 ((x2).toNat))) → (K (some (vi 1)) (mkM iv))) ∧ (((iv 5 ((x1).toNat)) * (iv 4 ((x2).toNat))) ≤ ((iv 5 ((x2).toNat)) * (iv 4 ((x1).toNat))) → ((¬ ((iv 5 ((x1).toNat)) * (iv 4 ((x2).toNat))) = ((iv 5 ((x2).toNat)) * (iv 4 ((x1).toNat))) → (K (some (vi 0)) (mkM iv))) ∧ (((iv 5 ((x1).toNat)) * (iv 4 ((x2).toNat))) = ((iv 5 ((x2).toNat)) * (iv 4 ((x1).toNat))) → ((x2 ≤ x1 → (K (some (vi 0)) (mkM iv))) ∧ (x1 < x2 → (K (some (vi 1)) (mkM iv)))))))))))))) : Z G mX12_isAhead d 0 0 0 [vr (some 0), vi x1, vi x2, vu, vu] [] (mkM iv) K := (Z_aload_n (dX12_isAhead 0) rfl (Z_gRM (r := (some 5)) (dX12_isAhead 1) lk_X12_33 sM0 rfl rfl (Z_iload_n (dX12_isAhead 2) rfl (Z_ilM (x := (iv 5 ((x1).toNat))) (dX12_isAhead 3) sM5 h.1 rfl (Z_aload_n (dX12_isAhead 4) rfl (Z_gRM (r := (some 4)) (dX12_isAhead 5) lk_X12_30 sM0 rfl rfl (Z_iload_n (dX12_isAhead 6) rfl (Z_ilM (x := (iv 4 ((x2).toNat))) (dX12_isAhead 7) sM4 h.2.1 rfl (Z_imul (dX12_isAhead 8) h.2.2.1 (Z_istore_n (dX12_isAhead 9) (Nat.le_of_ble_eq_true rfl) rfl (Z_aload_n (dX12_isAhead 10) rfl (Z_gRM (r := (some 5)) (dX12_isAhead 11) lk_X12_33 sM0 rfl rfl (Z_iload_n (dX12_isAhead 12) rfl (Z_ilM (x := (iv 5 ((x2).toNat))) (dX12_isAhead 13) sM5 h.2.2.2.1 rfl (Z_aload_n (dX12_isAhead 14) rfl (Z_gRM (r := (some 4)) (dX12_isAhead 15) lk_X12_30 sM0 rfl rfl (Z_iload_n (dX12_isAhead 16) rfl (Z_ilM (x := (iv 4 ((x1).toNat))) (dX12_isAhead 17) sM4 h.2.2.2.2.1 rfl (Z_imul (dX12_isAhead 18) h.2.2.2.2.2.1 (Z_istore (dX12_isAhead 19) (Nat.le_of_ble_eq_true rfl) rfl (Z_iload_n (dX12_isAhead 20) rfl (Z_iload (dX12_isAhead 21) rfl (Z_icmp_gt (dX12_isAhead 22) rfl (fun c1 => (Z_iconst (dX12_isAhead 29) ⟨by decide, by decide⟩ (Z_goto (dX12_isAhead 30) rfl (Z_zreturn (dX12_isAhead 32) rfl (Or.inr rfl) (h.2.2.2.2.2.2.1 c1))))) (fun c2 => (Z_iload_n (dX12_isAhead 23) rfl (Z_iload (dX12_isAhead 24) rfl (Z_icmp_ne (dX12_isAhead 25) rfl (fun c3 => (Z_iconst (dX12_isAhead 31) ⟨by decide, by decide⟩ (Z_zreturn (dX12_isAhead 32) rfl (Or.inl rfl) ((h.2.2.2.2.2.2.2 c2).1 c3)))) (fun c4 => (Z_iload_n (dX12_isAhead 26) rfl (Z_iload_n (dX12_isAhead 27) rfl (Z_icmp_ge (dX12_isAhead 28) rfl (fun c5 => (Z_iconst (dX12_isAhead 31) ⟨by decide, by decide⟩ (Z_zreturn (dX12_isAhead 32) rfl (Or.inl rfl) (((h.2.2.2.2.2.2.2 c2).2 c4).1 c5)))) (fun c6 => (Z_iconst (dX12_isAhead 29) ⟨by decide, by decide⟩ (Z_goto (dX12_isAhead 30) rfl (Z_zreturn (dX12_isAhead 32) rfl (Or.inr rfl) (((h.2.2.2.2.2.2.2 c2).2 c4).2 c6))))))))))))))))))))))))))))))))))))
abbrev ahM (iv : Nat → Nat → Int) : Int → Int → Prop := ahd (fun i => iv 5 i.toNat) (fun i => iv 4 i.toNat)
def okMg (iv : Nat → Nat → Int) (s : Int) : Prop := (0 ≤ s ∧ s < 10) ∧ (1 ≤ iv 4 s.toNat ∧ iv 4 s.toNat ≤ 60) ∧ (0 ≤ iv 5 s.toNat ∧ iv 5 s.toNat ≤ 9)
theorem M_isAhead {G : ZG} {d : Nat} {iv : Nat → Nat → Int} {K : Option AV → AH → Prop} {x1 x2 : Int} (h1 : okMg iv x1) (h2 : okMg iv x2) (h3 : x2 < x1) (k : K (some (vi (b01 (ahM iv x1 x2)))) (mkM iv)) : Z G mX12_isAhead d 0 0 0 [vr (some 0), vi x1, vi x2, vu, vu] [] (mkM iv) K := by
  obtain ⟨a1, a2, a3⟩ := h1
  obtain ⟨b1, b2, b3⟩ := h2
  have m1 := sg_mul a3 b2
  have m2 := sg_mul b3 a2
  apply sX12_isAhead_0
  unfold b01 ahM ahd at k
  dsimp only at k
  rw [show max 1 (iv 4 x1.toNat) = iv 4 x1.toNat by omega, show max 1 (iv 4 x2.toNat) = iv 4 x2.toNat by omega] at k
  refine ⟨by omega, by omega, by omega, by omega, by omega, by omega, fun e => ?_, fun n => ⟨fun _ => ?_, fun _ => ⟨fun _ => ?_, fun h => by omega⟩⟩⟩
  · rw [if_pos e] at k; exact k
  · rw [if_neg (Int.not_lt.mpr n)] at k; exact k
  · rw [if_neg (Int.not_lt.mpr n)] at k; exact k
set_option maxRecDepth 20000 in
theorem sX12_choose_0 {G : ZG} {d : Nat} {iv : Nat → Nat → Int} {K : Option AV → AH → Prop} {x1 : Int} (h : Z G mX12_choose (d + 1) 0 0 16 [vr (some 0), vi x1, vi 0, vu, vu, vu] [] (mkM (iu (iu iv 17 0 0) 17 1 0)) K) : Z G mX12_choose (d + 1) 0 0 0 [vr (some 0), vi x1, vu, vu, vu, vu] [] (mkM iv) K := (Z_aload_n (dX12_choose 0) rfl (Z_gRM (r := (some 17)) (dX12_choose 1) lk_X12_69 sM0 rfl rfl (Z_iconst (dX12_choose 2) ⟨by decide, by decide⟩ (Z_iconst (dX12_choose 3) ⟨by decide, by decide⟩ (Z_iastM (dX12_choose 4) sM17 ⟨by decide, by decide⟩ (Z_aload_n (dX12_choose 5) rfl (Z_gRM (r := (some 17)) (dX12_choose 6) lk_X12_69 sM0 rfl rfl (Z_iconst (dX12_choose 7) ⟨by decide, by decide⟩ (Z_iconst (dX12_choose 8) ⟨by decide, by decide⟩ (Z_iastM (dX12_choose 9) sM17 ⟨by decide, by decide⟩ (Z_iconst (dX12_choose 10) ⟨by decide, by decide⟩ (Z_istore_n (dX12_choose 11) (Nat.le_of_ble_eq_true rfl) rfl h))))))))))))
set_option maxRecDepth 20000 in
theorem sX12_choose_16 {G : ZG} {d : Nat} {iv : Nat → Nat → Int} {K : Option AV → AH → Prop} {x1 x2 : Int} (h : ((iv 0 4) ≤ x2 → (Z G mX12_choose (d + 1) 0 0 137 [vr (some 0), vu, vi 0, vi 0, vu, vu] [] (mkM iv) K)) ∧ (x2 < (iv 0 4) → ((-2147483648 ≤ ((iv 0 4) - 1) ∧ ((iv 0 4) - 1) ≤ 2147483647) ∧ ((-2147483648 ≤ (((iv 0 4) - 1) - x2) ∧ (((iv 0 4) - 1) - x2) ≤ 2147483647) ∧ ((0 ≤ (zand (zshr x1 (((iv 0 4) - 1) - x2)) 1) ∧ (zand (zshr x1 (((iv 0 4) - 1) - x2)) 1) < (2 : Nat)) ∧ (Z G mX12_choose (d + 1) 0 0 45 [vr (some 0), vi x1, vi x2, vi (zand (zshr x1 (((iv 0 4) - 1) - x2)) 1), vi (iv 17 ((zand (zshr x1 (((iv 0 4) - 1) - x2)) 1).toNat)), vu] [] (mkM iv) K)))))) : Z G mX12_choose (d + 1) 0 0 16 [vr (some 0), vi x1, vi x2, vu, vu, vu] [] (mkM iv) K := (Z_iload_n (dX12_choose 12) rfl (Z_aload_n (dX12_choose 13) rfl (Z_gIM (x := (iv 0 4)) (dX12_choose 14) lk_X12_218 sM0 (Or.inl rfl) rfl (Z_icmp_ge (dX12_choose 15) rfl (fun c1 => (Z_iconst (dX12_choose 87) ⟨by decide, by decide⟩ (Z_istore_n (dX12_choose 88) (Nat.le_of_ble_eq_true rfl) rfl (Z_iconst (dX12_choose 89) ⟨by decide, by decide⟩ (Z_istore_n (dX12_choose 90) (Nat.le_of_ble_eq_true rfl) rfl (Z.fg (L' := [vr (some 0), vu, vi 0, vi 0, vu, vu]) (L := [vr (some 0), vi x1, vi 0, vi 0, vu, vu]) ⟨Or.inl rfl, ⟨Or.inr rfl, ⟨Or.inl rfl, ⟨Or.inl rfl, ⟨Or.inl rfl, ⟨Or.inl rfl, trivial⟩⟩⟩⟩⟩⟩ (h.1 c1))))))) (fun c2 => (Z_iload_n (dX12_choose 16) rfl (Z_aload_n (dX12_choose 17) rfl (Z_gIM (x := (iv 0 4)) (dX12_choose 18) lk_X12_218 sM0 (Or.inl rfl) rfl (Z_iconst (dX12_choose 19) ⟨by decide, by decide⟩ (Z_isub (dX12_choose 20) (h.2 c2).1 (Z_iload_n (dX12_choose 21) rfl (Z_isub (dX12_choose 22) (h.2 c2).2.1 (Z_ishr (dX12_choose 23) (Z_iconst (dX12_choose 24) ⟨by decide, by decide⟩ (Z_iand (dX12_choose 25) (Z_istore_n (dX12_choose 26) (Nat.le_of_ble_eq_true rfl) rfl (Z_aload_n (dX12_choose 27) rfl (Z_gRM (r := (some 17)) (dX12_choose 28) lk_X12_69 sM0 rfl rfl (Z_iload_n (dX12_choose 29) rfl (Z_ilM (x := (iv 17 ((zand (zshr x1 (((iv 0 4) - 1) - x2)) 1).toNat))) (dX12_choose 30) sM17 (h.2 c2).2.2.1 rfl (Z_istore (dX12_choose 31) (Nat.le_of_ble_eq_true rfl) rfl (h.2 c2).2.2.2)))))))))))))))))))))
set_option maxRecDepth 20000 in
theorem sX12_choose_45 {G : ZG} {d : Nat} {iv : Nat → Nat → Int} {K : Option AV → AH → Prop} {x1 x2 x3 x4 : Int} (h : (x4 ≤ 0 → ((-2147483648 ≤ (10 * x3) ∧ (10 * x3) ≤ 2147483647) ∧ ((-2147483648 ≤ ((10 * x3) + x4) ∧ ((10 * x3) + x4) ≤ 2147483647) ∧ ((0 ≤ ((10 * x3) + x4) ∧ ((10 * x3) + x4) < (20 : Nat)) ∧ ((0 ≤ x3 ∧ x3 < (2 : Nat)) ∧ ((-2147483648 ≤ ((iv 17 ((x3).toNat)) + 1) ∧ ((iv 17 ((x3).toNat)) + 1) ≤ 2147483647) ∧ ((0 ≤ x3 ∧ x3 < (2 : Nat)) ∧ ((-2147483648 ≤ (x2 + 1) ∧ (x2 + 1) ≤ 2147483647) ∧ (Z G mX12_choose (d + 1) 0 0 16 [vr (some 0), vi x1, vi (x2 + 1), vu, vu, vu] [] (mkM (iu (iu iv 16 (((10 * x3) + x4).toNat) x2) 17 ((x3).toNat) ((iv 17 ((x3).toNat)) + 1))) K))))))))) ∧ (0 < x4 → ((-2147483648 ≤ (10 * x3) ∧ (10 * x3) ≤ 2147483647) ∧ ((-2147483648 ≤ ((10 * x3) + x4) ∧ ((10 * x3) + x4) ≤ 2147483647) ∧ ((-2147483648 ≤ (((10 * x3) + x4) - 1) ∧ (((10 * x3) + x4) - 1) ≤ 2147483647) ∧ ((0 ≤ (((10 * x3) + x4) - 1) ∧ (((10 * x3) + x4) - 1) < (20 : Nat)) ∧ ((okMg iv x2) ∧ ((okMg iv (iv 16 ((((10 * x3) + x4) - 1).toNat))) ∧ (((iv 16 ((((10 * x3) + x4) - 1).toNat)) < x2) ∧ ((¬ (ahM iv x2 (iv 16 ((((10 * x3) + x4) - 1).toNat))) → ((-2147483648 ≤ (10 * x3) ∧ (10 * x3) ≤ 2147483647) ∧ ((-2147483648 ≤ ((10 * x3) + x4) ∧ ((10 * x3) + x4) ≤ 2147483647) ∧ ((0 ≤ ((10 * x3) + x4) ∧ ((10 * x3) + x4) < (20 : Nat)) ∧ ((0 ≤ x3 ∧ x3 < (2 : Nat)) ∧ ((-2147483648 ≤ ((iv 17 ((x3).toNat)) + 1) ∧ ((iv 17 ((x3).toNat)) + 1) ≤ 2147483647) ∧ ((0 ≤ x3 ∧ x3 < (2 : Nat)) ∧ ((-2147483648 ≤ (x2 + 1) ∧ (x2 + 1) ≤ 2147483647) ∧ (Z G mX12_choose (d + 1) 0 0 16 [vr (some 0), vi x1, vi (x2 + 1), vu, vu, vu] [] (mkM (iu (iu iv 16 (((10 * x3) + x4).toNat) x2) 17 ((x3).toNat) ((iv 17 ((x3).toNat)) + 1))) K))))))))) ∧ (ahM iv x2 (iv 16 ((((10 * x3) + x4) - 1).toNat)) → ((-2147483648 ≤ (10 * x3) ∧ (10 * x3) ≤ 2147483647) ∧ ((-2147483648 ≤ ((10 * x3) + x4) ∧ ((10 * x3) + x4) ≤ 2147483647) ∧ ((-2147483648 ≤ (10 * x3) ∧ (10 * x3) ≤ 2147483647) ∧ ((-2147483648 ≤ ((10 * x3) + x4) ∧ ((10 * x3) + x4) ≤ 2147483647) ∧ ((-2147483648 ≤ (((10 * x3) + x4) - 1) ∧ (((10 * x3) + x4) - 1) ≤ 2147483647) ∧ ((0 ≤ (((10 * x3) + x4) - 1) ∧ (((10 * x3) + x4) - 1) < (20 : Nat)) ∧ ((0 ≤ ((10 * x3) + x4) ∧ ((10 * x3) + x4) < (20 : Nat)) ∧ ((-2147483648 ≤ (x4 + (-1)) ∧ (x4 + (-1)) ≤ 2147483647) ∧ (Z G mX12_choose (d + 1) 0 0 45 [vr (some 0), vi x1, vi x2, vi x3, vi (x4 + (-1)), vu] [] (mkM (iu iv 16 (((10 * x3) + x4).toNat) (iv 16 ((((10 * x3) + x4) - 1).toNat)))) K)))))))))))))))))))) : Z G mX12_choose (d + 1) 0 0 45 [vr (some 0), vi x1, vi x2, vi x3, vi x4, vu] [] (mkM iv) K := (Z_iload (dX12_choose 32) rfl (Z_if_le (dX12_choose 33) rfl (fun c1 => (Z_aload_n (dX12_choose 68) rfl (Z_gRM (r := (some 16)) (dX12_choose 69) lk_X12_66 sM0 rfl rfl (Z_bipush (dX12_choose 70) ⟨by decide, by decide⟩ (Z_iload_n (dX12_choose 71) rfl (Z_imul (dX12_choose 72) (h.1 c1).1 (Z_iload (dX12_choose 73) rfl (Z_iadd (dX12_choose 74) (h.1 c1).2.1 (Z_iload_n (dX12_choose 75) rfl (Z_iastM (dX12_choose 76) sM16 (h.1 c1).2.2.1 (Z_aload_n (dX12_choose 77) rfl (Z_gRM (r := (some 17)) (dX12_choose 78) lk_X12_69 sM0 rfl rfl (Z_iload_n (dX12_choose 79) rfl (Z_dup2 (dX12_choose 80) rfl rfl (Z_ilM (x := (iv 17 ((x3).toNat))) (dX12_choose 81) sM17 (h.1 c1).2.2.2.1 ((iu_o (by decide)).trans rfl) (Z_iconst (dX12_choose 82) ⟨by decide, by decide⟩ (Z_iadd (dX12_choose 83) (h.1 c1).2.2.2.2.1 (Z_iastM (dX12_choose 84) sM17 (h.1 c1).2.2.2.2.2.1 (Z_iinc (dX12_choose 85) rfl (Nat.le_of_ble_eq_true rfl) (h.1 c1).2.2.2.2.2.2.1 rfl (Z_goto (dX12_choose 86) rfl (Z.fg (L' := [vr (some 0), vi x1, vi (x2 + 1), vu, vu, vu]) (L := [vr (some 0), vi x1, vi (x2 + 1), vi x3, vi x4, vu]) ⟨Or.inl rfl, ⟨Or.inl rfl, ⟨Or.inl rfl, ⟨Or.inr rfl, ⟨Or.inr rfl, ⟨Or.inl rfl, trivial⟩⟩⟩⟩⟩⟩ (h.1 c1).2.2.2.2.2.2.2))))))))))))))))))))) (fun c2 => (Z_aload_n (dX12_choose 34) rfl (Z_iload_n (dX12_choose 35) rfl (Z_aload_n (dX12_choose 36) rfl (Z_gRM (r := (some 16)) (dX12_choose 37) lk_X12_66 sM0 rfl rfl (Z_bipush (dX12_choose 38) ⟨by decide, by decide⟩ (Z_iload_n (dX12_choose 39) rfl (Z_imul (dX12_choose 40) (h.2 c2).1 (Z_iload (dX12_choose 41) rfl (Z_iadd (dX12_choose 42) (h.2 c2).2.1 (Z_iconst (dX12_choose 43) ⟨by decide, by decide⟩ (Z_isub (dX12_choose 44) (h.2 c2).2.2.1 (Z_ilM (x := (iv 16 ((((10 * x3) + x4) - 1).toNat))) (dX12_choose 45) sM16 (h.2 c2).2.2.2.1 rfl (Z_cVM (As := [vi x2, vi (iv 16 ((((10 * x3) + x4) - 1).toNat))]) (S := []) (dX12_choose 46) lk_X12_279 sM0 (by decide) rfl rfl (Nat.le_of_ble_eq_true rfl) (Nat.le_of_ble_eq_true rfl) (M_isAhead  (h.2 c2).2.2.2.2.1 (h.2 c2).2.2.2.2.2.1 (h.2 c2).2.2.2.2.2.2.1 ((Z_if_eq (dX12_choose 47) rfl (fun c3 => (Z_aload_n (dX12_choose 68) rfl (Z_gRM (r := (some 16)) (dX12_choose 69) lk_X12_66 sM0 rfl rfl (Z_bipush (dX12_choose 70) ⟨by decide, by decide⟩ (Z_iload_n (dX12_choose 71) rfl (Z_imul (dX12_choose 72) ((h.2 c2).2.2.2.2.2.2.2.1 (b01_0.mp c3)).1 (Z_iload (dX12_choose 73) rfl (Z_iadd (dX12_choose 74) ((h.2 c2).2.2.2.2.2.2.2.1 (b01_0.mp c3)).2.1 (Z_iload_n (dX12_choose 75) rfl (Z_iastM (dX12_choose 76) sM16 ((h.2 c2).2.2.2.2.2.2.2.1 (b01_0.mp c3)).2.2.1 (Z_aload_n (dX12_choose 77) rfl (Z_gRM (r := (some 17)) (dX12_choose 78) lk_X12_69 sM0 rfl rfl (Z_iload_n (dX12_choose 79) rfl (Z_dup2 (dX12_choose 80) rfl rfl (Z_ilM (x := (iv 17 ((x3).toNat))) (dX12_choose 81) sM17 ((h.2 c2).2.2.2.2.2.2.2.1 (b01_0.mp c3)).2.2.2.1 ((iu_o (by decide)).trans rfl) (Z_iconst (dX12_choose 82) ⟨by decide, by decide⟩ (Z_iadd (dX12_choose 83) ((h.2 c2).2.2.2.2.2.2.2.1 (b01_0.mp c3)).2.2.2.2.1 (Z_iastM (dX12_choose 84) sM17 ((h.2 c2).2.2.2.2.2.2.2.1 (b01_0.mp c3)).2.2.2.2.2.1 (Z_iinc (dX12_choose 85) rfl (Nat.le_of_ble_eq_true rfl) ((h.2 c2).2.2.2.2.2.2.2.1 (b01_0.mp c3)).2.2.2.2.2.2.1 rfl (Z_goto (dX12_choose 86) rfl (Z.fg (L' := [vr (some 0), vi x1, vi (x2 + 1), vu, vu, vu]) (L := [vr (some 0), vi x1, vi (x2 + 1), vi x3, vi x4, vu]) ⟨Or.inl rfl, ⟨Or.inl rfl, ⟨Or.inl rfl, ⟨Or.inr rfl, ⟨Or.inr rfl, ⟨Or.inl rfl, trivial⟩⟩⟩⟩⟩⟩ ((h.2 c2).2.2.2.2.2.2.2.1 (b01_0.mp c3)).2.2.2.2.2.2.2))))))))))))))))))))) (fun c4 => (Z_aload_n (dX12_choose 48) rfl (Z_gRM (r := (some 16)) (dX12_choose 49) lk_X12_66 sM0 rfl rfl (Z_bipush (dX12_choose 50) ⟨by decide, by decide⟩ (Z_iload_n (dX12_choose 51) rfl (Z_imul (dX12_choose 52) ((h.2 c2).2.2.2.2.2.2.2.2 (b01_n.mp c4)).1 (Z_iload (dX12_choose 53) rfl (Z_iadd (dX12_choose 54) ((h.2 c2).2.2.2.2.2.2.2.2 (b01_n.mp c4)).2.1 (Z_aload_n (dX12_choose 55) rfl (Z_gRM (r := (some 16)) (dX12_choose 56) lk_X12_66 sM0 rfl rfl (Z_bipush (dX12_choose 57) ⟨by decide, by decide⟩ (Z_iload_n (dX12_choose 58) rfl (Z_imul (dX12_choose 59) ((h.2 c2).2.2.2.2.2.2.2.2 (b01_n.mp c4)).2.2.1 (Z_iload (dX12_choose 60) rfl (Z_iadd (dX12_choose 61) ((h.2 c2).2.2.2.2.2.2.2.2 (b01_n.mp c4)).2.2.2.1 (Z_iconst (dX12_choose 62) ⟨by decide, by decide⟩ (Z_isub (dX12_choose 63) ((h.2 c2).2.2.2.2.2.2.2.2 (b01_n.mp c4)).2.2.2.2.1 (Z_ilM (x := (iv 16 ((((10 * x3) + x4) - 1).toNat))) (dX12_choose 64) sM16 ((h.2 c2).2.2.2.2.2.2.2.2 (b01_n.mp c4)).2.2.2.2.2.1 rfl (Z_iastM (dX12_choose 65) sM16 ((h.2 c2).2.2.2.2.2.2.2.2 (b01_n.mp c4)).2.2.2.2.2.2.1 (Z_iinc (dX12_choose 66) rfl (Nat.le_of_ble_eq_true rfl) ((h.2 c2).2.2.2.2.2.2.2.2 (b01_n.mp c4)).2.2.2.2.2.2.2.1 rfl (Z_goto (dX12_choose 67) rfl ((h.2 c2).2.2.2.2.2.2.2.2 (b01_n.mp c4)).2.2.2.2.2.2.2.2))))))))))))))))))))))))))))))))))))))))
set_option maxRecDepth 20000 in
theorem sX12_choose_137 {G : ZG} {d : Nat} {iv : Nat → Nat → Int} {K : Option AV → AH → Prop} {x2 x3 : Int} (h : (2 ≤ x3 → (K (some (vi x2)) (mkM iv))) ∧ (x3 < 2 → (Z G mX12_choose (d + 1) 0 0 148 [vr (some 0), vu, vi x2, vi x3, vi 0, vi 0] [] (mkM iv) K))) : Z G mX12_choose (d + 1) 0 0 137 [vr (some 0), vu, vi x2, vi x3, vu, vu] [] (mkM iv) K := (Z_iload_n (dX12_choose 91) rfl (Z_iconst (dX12_choose 92) ⟨by decide, by decide⟩ (Z_icmp_ge (dX12_choose 93) rfl (fun c1 => (Z_iload_n (dX12_choose 144) rfl (Z_ireturn (dX12_choose 145) rfl (h.1 c1)))) (fun c2 => (Z_iconst (dX12_choose 94) ⟨by decide, by decide⟩ (Z_istore (dX12_choose 95) (Nat.le_of_ble_eq_true rfl) rfl (Z_iconst (dX12_choose 96) ⟨by decide, by decide⟩ (Z_istore (dX12_choose 97) (Nat.le_of_ble_eq_true rfl) rfl (h.2 c2)))))))))
set_option maxRecDepth 20000 in
theorem sX12_choose_148 {G : ZG} {d : Nat} {iv : Nat → Nat → Int} {K : Option AV → AH → Prop} {x2 x3 x4 x5 : Int} (h : (0 ≤ x3 ∧ x3 < (2 : Nat)) ∧ (((iv 17 ((x3).toNat)) ≤ x5 → ((x4 ≤ (iv 0 7) → ((-2147483648 ≤ (x3 + 1) ∧ (x3 + 1) ≤ 2147483647) ∧ (Z G mX12_choose (d + 1) 0 0 137 [vr (some 0), vu, vi x2, vi (x3 + 1), vu, vu] [] (mkM iv) K))) ∧ ((iv 0 7) < x4 → (K (some (vi (-1))) (mkM iv))))) ∧ (x5 < (iv 17 ((x3).toNat)) → ((-2147483648 ≤ (10 * x3) ∧ (10 * x3) ≤ 2147483647) ∧ ((-2147483648 ≤ ((10 * x3) + x5) ∧ ((10 * x3) + x5) ≤ 2147483647) ∧ ((0 ≤ ((10 * x3) + x5) ∧ ((10 * x3) + x5) < (20 : Nat)) ∧ ((0 ≤ (iv 16 (((10 * x3) + x5).toNat)) ∧ (iv 16 (((10 * x3) + x5).toNat)) < (10 : Nat)) ∧ ((-2147483648 ≤ ((iv 5 ((iv 16 (((10 * x3) + x5).toNat)).toNat)) * x4) ∧ ((iv 5 ((iv 16 (((10 * x3) + x5).toNat)).toNat)) * x4) ≤ 2147483647) ∧ ((-2147483648 ≤ (x2 + ((iv 5 ((iv 16 (((10 * x3) + x5).toNat)).toNat)) * x4)) ∧ (x2 + ((iv 5 ((iv 16 (((10 * x3) + x5).toNat)).toNat)) * x4)) ≤ 2147483647) ∧ ((-2147483648 ≤ (10 * x3) ∧ (10 * x3) ≤ 2147483647) ∧ ((-2147483648 ≤ ((10 * x3) + x5) ∧ ((10 * x3) + x5) ≤ 2147483647) ∧ ((0 ≤ ((10 * x3) + x5) ∧ ((10 * x3) + x5) < (20 : Nat)) ∧ ((0 ≤ (iv 16 (((10 * x3) + x5).toNat)) ∧ (iv 16 (((10 * x3) + x5).toNat)) < (10 : Nat)) ∧ ((-2147483648 ≤ (x4 + (iv 4 ((iv 16 (((10 * x3) + x5).toNat)).toNat))) ∧ (x4 + (iv 4 ((iv 16 (((10 * x3) + x5).toNat)).toNat))) ≤ 2147483647) ∧ ((-2147483648 ≤ (x5 + 1) ∧ (x5 + 1) ≤ 2147483647) ∧ (Z G mX12_choose (d + 1) 0 0 148 [vr (some 0), vu, vi (x2 + ((iv 5 ((iv 16 (((10 * x3) + x5).toNat)).toNat)) * x4)), vi x3, vi (x4 + (iv 4 ((iv 16 (((10 * x3) + x5).toNat)).toNat))), vi (x5 + 1)] [] (mkM iv) K)))))))))))))))) : Z G mX12_choose (d + 1) 0 0 148 [vr (some 0), vu, vi x2, vi x3, vi x4, vi x5] [] (mkM iv) K := (Z_iload (dX12_choose 98) rfl (Z_aload_n (dX12_choose 99) rfl (Z_gRM (r := (some 17)) (dX12_choose 100) lk_X12_69 sM0 rfl rfl (Z_iload_n (dX12_choose 101) rfl (Z_ilM (x := (iv 17 ((x3).toNat))) (dX12_choose 102) sM17 h.1 rfl (Z_icmp_ge (dX12_choose 103) rfl (fun c1 => (Z_iload (dX12_choose 136) rfl (Z_aload_n (dX12_choose 137) rfl (Z_gIM (x := (iv 0 7)) (dX12_choose 138) lk_X12_27 sM0 (Or.inl rfl) rfl (Z_icmp_le (dX12_choose 139) rfl (fun c3 => (Z_iinc (dX12_choose 142) rfl (Nat.le_of_ble_eq_true rfl) ((h.2.1 c1).1 c3).1 rfl (Z_goto (dX12_choose 143) rfl (Z.fg (L' := [vr (some 0), vu, vi x2, vi (x3 + 1), vu, vu]) (L := [vr (some 0), vu, vi x2, vi (x3 + 1), vi x4, vi x5]) ⟨Or.inl rfl, ⟨Or.inl rfl, ⟨Or.inl rfl, ⟨Or.inl rfl, ⟨Or.inr rfl, ⟨Or.inr rfl, trivial⟩⟩⟩⟩⟩⟩ ((h.2.1 c1).1 c3).2)))) (fun c4 => (Z_iconst (dX12_choose 140) ⟨by decide, by decide⟩ (Z_ireturn (dX12_choose 141) rfl ((h.2.1 c1).2 c4))))))))) (fun c2 => (Z_iload_n (dX12_choose 104) rfl (Z_aload_n (dX12_choose 105) rfl (Z_gRM (r := (some 5)) (dX12_choose 106) lk_X12_33 sM0 rfl rfl (Z_aload_n (dX12_choose 107) rfl (Z_gRM (r := (some 16)) (dX12_choose 108) lk_X12_66 sM0 rfl rfl (Z_bipush (dX12_choose 109) ⟨by decide, by decide⟩ (Z_iload_n (dX12_choose 110) rfl (Z_imul (dX12_choose 111) (h.2.2 c2).1 (Z_iload (dX12_choose 112) rfl (Z_iadd (dX12_choose 113) (h.2.2 c2).2.1 (Z_ilM (x := (iv 16 (((10 * x3) + x5).toNat))) (dX12_choose 114) sM16 (h.2.2 c2).2.2.1 rfl (Z_ilM (x := (iv 5 ((iv 16 (((10 * x3) + x5).toNat)).toNat))) (dX12_choose 115) sM5 (h.2.2 c2).2.2.2.1 rfl (Z_iload (dX12_choose 116) rfl (Z_imul (dX12_choose 117) (h.2.2 c2).2.2.2.2.1 (Z_iadd (dX12_choose 118) (h.2.2 c2).2.2.2.2.2.1 (Z_istore_n (dX12_choose 119) (Nat.le_of_ble_eq_true rfl) rfl (Z_iload (dX12_choose 120) rfl (Z_aload_n (dX12_choose 121) rfl (Z_gRM (r := (some 4)) (dX12_choose 122) lk_X12_30 sM0 rfl rfl (Z_aload_n (dX12_choose 123) rfl (Z_gRM (r := (some 16)) (dX12_choose 124) lk_X12_66 sM0 rfl rfl (Z_bipush (dX12_choose 125) ⟨by decide, by decide⟩ (Z_iload_n (dX12_choose 126) rfl (Z_imul (dX12_choose 127) (h.2.2 c2).2.2.2.2.2.2.1 (Z_iload (dX12_choose 128) rfl (Z_iadd (dX12_choose 129) (h.2.2 c2).2.2.2.2.2.2.2.1 (Z_ilM (x := (iv 16 (((10 * x3) + x5).toNat))) (dX12_choose 130) sM16 (h.2.2 c2).2.2.2.2.2.2.2.2.1 rfl (Z_ilM (x := (iv 4 ((iv 16 (((10 * x3) + x5).toNat)).toNat))) (dX12_choose 131) sM4 (h.2.2 c2).2.2.2.2.2.2.2.2.2.1 rfl (Z_iadd (dX12_choose 132) (h.2.2 c2).2.2.2.2.2.2.2.2.2.2.1 (Z_istore (dX12_choose 133) (Nat.le_of_ble_eq_true rfl) rfl (Z_iinc (dX12_choose 134) rfl (Nat.le_of_ble_eq_true rfl) (h.2.2 c2).2.2.2.2.2.2.2.2.2.2.2.1 rfl (Z_goto (dX12_choose 135) rfl (h.2.2 c2).2.2.2.2.2.2.2.2.2.2.2.2)))))))))))))))))))))))))))))))))))))))
def rowM (v iv : Nat → Nat → Int) (n code : Int) (m : Nat) (side : Int) : Prop := 0 ≤ v 17 side.toNat ∧ rl (fun i => v 16 (10 * side + i).toNat) (v 17 side.toNat).toNat = srtH (iv 5) (iv 4) (pS n code side) m
theorem rowM.le {v iv : Nat → Nat → Int} {n code : Int} {m : Nat} {side : Int} (h : rowM v iv n code m side) : 0 ≤ v 17 side.toNat ∧ v 17 side.toNat ≤ m := by
  have := congrArg List.length h.2
  rw [rl_len] at this
  have l := srt_len (A := ahd (fun i => iv 5 i.toNat) (fun i => iv 4 i.toNat)) (p := pS n code side) m
  unfold srtH at this
  have := h.1
  omega
theorem rowM.mem {v iv : Nat → Nat → Int} {n code : Int} {m : Nat} {side : Int} (h : rowM v iv n code m side) {i : Int} (h1 : 0 ≤ i) (h2 : i < v 17 side.toNat) : 0 ≤ v 16 (10 * side + i).toNat ∧ v 16 (10 * side + i).toNat < m := by
  have q : v 16 (10 * side + i).toNat ∈ rl (fun i => v 16 (10 * side + i).toNat) (v 17 side.toNat).toNat := (rl_mem _).mpr ⟨i, h1, by omega, rfl⟩
  rw [h.2] at q
  exact ((srt_mem _).mp q).1
theorem M_chooseRows {G : ZG} {d : Nat} {iv : Nat → Nat → Int} {K : Option AV → AH → Prop} {x1 : Int} (hn : 0 ≤ iv 0 4 ∧ iv 0 4 ≤ 10) (hs : ∀ s, 0 ≤ s → s < iv 0 4 → okMg iv s) (k : ∀ v : Nat → Nat → Int, (∀ i, i ≠ 16 → i ≠ 17 → v i = iv i) → rowM v iv (iv 0 4) x1 (iv 0 4).toNat 0 → rowM v iv (iv 0 4) x1 (iv 0 4).toNat 1 → Z G mX12_choose (d + 1) 0 0 137 [vr (some 0), vu, vi 0, vi 0, vu, vu] [] (mkM v) K) : Z G mX12_choose (d + 1) 0 0 0 [vr (some 0), vi x1, vu, vu, vu, vu] [] (mkM iv) K := by
  apply sX12_choose_0
  refine lp_up (P := fun s v => Z G mX12_choose (d + 1) 0 0 16 [vr (some 0), vi x1, vi s, vu, vu, vu] [] (mkM v) K) (iv 0 4) (fun s v => 0 ≤ s ∧ (∀ i, i ≠ 16 → i ≠ 17 → v i = iv i) ∧ (∀ side, (side = 0 ∨ side = 1) → rowM v iv (iv 0 4) x1 s.toNat side)) ?_ ?_ 0 _ (by omega) ⟨by omega, fun i a b => ?_, fun side a => ?_⟩
  · rintro v ⟨-, f1, f2⟩
    apply sX12_choose_16
    rw [f1 0 (by omega) (by omega)]
    exact ⟨fun _ => k v f1 (f2 0 (Or.inl rfl)) (f2 1 (Or.inr rfl)), fun h => by omega⟩
  · rintro s v hsn ⟨s0, f1, f2⟩ ih
    apply sX12_choose_16
    rw [f1 0 (by omega) (by omega)]
    refine ⟨fun h => by omega, fun _ => ⟨by omega, by omega, ?_⟩⟩
    rw [show zand (zshr x1 (iv 0 4 - 1 - s)) 1 = sdIn (iv 0 4) x1 s from rfl]
    have hsd := sdIn_01 (iv 0 4) x1 s
    generalize hside : sdIn (iv 0 4) x1 s = side at hsd
    refine ⟨by omega, ?_⟩
    have rs := f2 side hsd
    have le := rs.le
    have hm : ∀ {i : Int}, 0 ≤ i → i < v 17 side.toNat → 0 ≤ v 16 (10 * side + i).toNat ∧ v 16 (10 * side + i).toNat < s.toNat := fun a b => rs.mem a b
    have fin : ∀ (j : Int) (w : Nat → Nat → Int), 0 ≤ j → j ≤ v 17 side.toNat → (∀ i, i ≠ 16 → w i = v i) → (∀ q : Nat, (q : Int) < 10 * side ∨ 10 * side + 10 ≤ q → w 16 q = v 16 q) → (∀ i, 0 ≤ i → i < j → w 16 (10 * side + i).toNat = v 16 (10 * side + i).toNat) → (∀ i, j ≤ i → i < v 17 side.toNat → w 16 (10 * side + (i + 1)).toNat = v 16 (10 * side + i).toNat) → (∀ i, j ≤ i → i < v 17 side.toNat → ahM iv s (v 16 (10 * side + i).toNat)) → (j = 0 ∨ ¬ ahM iv s (v 16 (10 * side + (j - 1)).toNat)) → Z G mX12_choose (d + 1) 0 0 16 [vr (some 0), vi x1, vi (s + 1), vu, vu, vu] [] (mkM (iu (iu w 16 (10 * side + j).toNat s) 17 side.toNat (w 17 side.toNat + 1))) K := by
      intro j w j0 js g1 g6 g2 g3 g4 g5
      refine ih _ ⟨by omega, fun i a b => ?_, fun sd hsd2 => ?_⟩
      · rw [← f1 i a b, ← g1 i a]; funext q; rw [iu_o b, iu_o a]
      · rw [g1 17 (by omega)]
        by_cases e : sd = side
        · subst e
          refine ⟨by rw [iu_eq]; omega, ?_⟩
          rw [iu_eq, show (v 17 sd.toNat + 1).toNat = (v 17 sd.toNat).toNat + 1 by omega, show (s + 1).toNat = s.toNat + 1 by omega]
          have q := rl_ins (A := ahM iv) (f := fun i => iu (iu w 16 (10 * sd + j).toNat s) 17 sd.toNat (v 17 sd.toNat + 1) 16 (10 * sd + i).toNat) (g := fun i => v 16 (10 * sd + i).toNat) (s := s) (k := j) j0 (fun i a b => ?_) ?_ g5 (v 17 sd.toNat).toNat (by omega) (fun i a b => ?_) (fun i a b => g4 i a (by omega))
          · rw [q, rs.2]
            unfold srtH
            conv => rhs; unfold srt
            rw [show ((s.toNat : Nat) : Int) = s by omega, if_pos (by unfold pS; simp [hside])]
          · rw [iu_o (by omega), iu_k (by omega)]; exact g2 i a b
          · rw [iu_o (by omega), iu_eq]
          · rw [iu_o (by omega), iu_k (by omega)]; exact g3 i a (by omega)
        · have ro := f2 sd hsd2
          have lo := ro.le
          refine ⟨by rw [iu_k (by omega), iu_o (by omega), g1 17 (by omega)]; exact lo.1, ?_⟩
          rw [iu_k (by omega), iu_o (by omega), g1 17 (by omega), show (s + 1).toNat = s.toNat + 1 by omega]
          rw [rl_congr (g := fun i => v 16 (10 * sd + i).toNat) _ (fun i a b => ?_), ro.2]
          · unfold srtH
            conv => rhs; unfold srt
            rw [show ((s.toNat : Nat) : Int) = s by omega, if_neg (by unfold pS; rw [hside]; simp; exact fun q => e q.symm)]
          · rw [iu_o (by omega), iu_k (by omega)]; exact g6 _ (by omega)
    refine lp_dn (P := fun j w => Z G mX12_choose (d + 1) 0 0 45 [vr (some 0), vi x1, vi s, vi side, vi j, vu] [] (mkM w) K) 0 (fun j w => 0 ≤ j ∧ j ≤ v 17 side.toNat ∧ (∀ i, i ≠ 16 → w i = v i) ∧ (∀ q : Nat, (q : Int) < 10 * side ∨ 10 * side + 10 ≤ q → w 16 q = v 16 q) ∧ (∀ i, 0 ≤ i → i < j → w 16 (10 * side + i).toNat = v 16 (10 * side + i).toNat) ∧ (∀ i, j ≤ i → i < v 17 side.toNat → w 16 (10 * side + (i + 1)).toNat = v 16 (10 * side + i).toNat) ∧ (∀ i, j ≤ i → i < v 17 side.toNat → ahM iv s (v 16 (10 * side + i).toNat))) ?_ ?_ (v 17 side.toNat) v le.1 ⟨le.1, by omega, fun _ _ => rfl, fun _ _ => rfl, fun _ _ _ => rfl, fun i a b => by omega, fun i a b => by omega⟩
    · rintro w ⟨j0, js, g1, g6, g2, g3, g4⟩
      apply sX12_choose_45
      have e17 : w 17 side.toNat = v 17 side.toNat := by rw [g1 17 (by omega)]
      exact ⟨fun _ => ⟨by omega, by omega, by omega, by omega, by omega, by omega, by omega, fin 0 w j0 js g1 g6 g2 g3 g4 (Or.inl rfl)⟩, fun h => by omega⟩
    · rintro j w hj ⟨j0, js, g1, g6, g2, g3, g4⟩ ihj
      apply sX12_choose_45
      have ew : w 16 (10 * side + j - 1).toNat = v 16 (10 * side + (j - 1)).toNat := by rw [show 10 * side + j - 1 = 10 * side + (j - 1) by omega]; exact g2 (j - 1) (by omega) (by omega)
      have w5 : w 5 = iv 5 := by rw [g1 5 (by omega), f1 5 (by omega) (by omega)]
      have w4 : w 4 = iv 4 := by rw [g1 4 (by omega), f1 4 (by omega) (by omega)]
      have eA : ahM w = ahM iv := by unfold ahM; rw [w4, w5]
      have eS : ∀ x, okMg w x ↔ okMg iv x := by intro x; unfold okMg; rw [w4, w5]
      have m := hm (i := j - 1) (by omega) (by omega)
      have e17 : w 17 side.toNat = v 17 side.toNat := by rw [g1 17 (by omega)]
      rw [ew, eA, eS, eS]
      refine ⟨fun h => by omega, fun _ => ⟨by omega, by omega, by omega, by omega, hs s s0 hsn, hs _ m.1 (by omega), by omega, fun n => ⟨by omega, by omega, by omega, by omega, by omega, by omega, by omega, fin j w j0 js g1 g6 g2 g3 g4 (Or.inr n)⟩, fun e => ⟨by omega, by omega, by omega, by omega, by omega, by omega, by omega, by omega, ?_⟩⟩⟩
      refine ihj _ ⟨by omega, by omega, fun i hi => ?_, fun q a => ?_, fun i a b => ?_, fun i a b => ?_, fun i a b => ?_⟩
      · rw [← g1 i hi]; funext q; exact iu_o hi
      · rw [iu_k (by omega)]; exact g6 q a
      · rw [iu_k (by omega)]; exact g2 i a (by omega)
      · by_cases e2 : i = j - 1
        · subst e2
          rw [show 10 * side + (j - 1 + 1) = 10 * side + j by omega, iu_eq]
        · rw [iu_k (by omega)]; exact g3 i (by omega) b
      · by_cases e2 : i = j - 1
        · subst e2; exact e
        · exact g4 i (by omega) b
  · funext q; rw [iu_o b, iu_o b]
  · have z : (iu (iu iv 17 0 0) 17 1 0) 17 side.toNat = 0 := by
      rcases a with e | e <;> subst e
      · rw [iu_k (by decide)]; exact iu_eq
      · exact iu_eq
    exact ⟨by rw [z]; omega, by rw [z]; rfl⟩
theorem M_chooseSum {G : ZG} {d : Nat} {iv : Nat → Nat → Int} {K : Option AV → AH → Prop} {L : List Int} {b side : Int} (hsd : side = 0 ∨ side = 1) (h1 : 0 ≤ iv 17 side.toNat ∧ iv 17 side.toNat ≤ 10) (hL : rl (fun i => iv 16 (10 * side + i).toNat) (iv 17 side.toNat).toNat = L) (hs : ∀ i, 0 ≤ i → i < iv 17 side.toNat → okMg iv (iv 16 (10 * side + i).toNat)) (hb : 0 ≤ b ∧ b ≤ 54000) (k1 : lenL (fun i => iv 4 i.toNat) L ≤ iv 0 7 → Z G mX12_choose (d + 1) 0 0 137 [vr (some 0), vu, vi (b + losL (fun i => iv 5 i.toNat) (fun i => iv 4 i.toNat) L), vi (side + 1), vu, vu] [] (mkM iv) K) (k2 : iv 0 7 < lenL (fun i => iv 4 i.toNat) L → K (some (vi (-1))) (mkM iv)) : Z G mX12_choose (d + 1) 0 0 148 [vr (some 0), vu, vi b, vi side, vi 0, vi 0] [] (mkM iv) K := by
  refine lp_up (σ := Int × Int) (P := fun j s => Z G mX12_choose (d + 1) 0 0 148 [vr (some 0), vu, vi s.1, vi side, vi s.2, vi j] [] (mkM iv) K) (iv 17 side.toNat) (fun j s => 0 ≤ j ∧ s.1 = b + losL (fun i => iv 5 i.toNat) (fun i => iv 4 i.toNat) (rl (fun i => iv 16 (10 * side + i).toNat) j.toNat) ∧ s.2 = lenL (fun i => iv 4 i.toNat) (rl (fun i => iv 16 (10 * side + i).toNat) j.toNat) ∧ (0 ≤ s.1 ∧ s.1 ≤ 54000 + 5400 * j) ∧ (0 ≤ s.2 ∧ s.2 ≤ 60 * j)) ?_ ?_ 0 (b, 0) (by omega) ⟨by omega, by show b = b + 0; omega, rfl, by dsimp only; omega, by simp⟩
  · rintro ⟨a, c⟩ ⟨-, e1, e2, -⟩
    apply sX12_choose_148
    dsimp only at *
    rw [hL] at e1 e2
    subst e1 e2
    exact ⟨by omega, fun _ => ⟨fun q => ⟨by omega, k1 q⟩, k2⟩, fun h => by omega⟩
  · rintro j ⟨a, c⟩ hj ⟨j0, e1, e2, b1, b2⟩ ih
    apply sX12_choose_148
    dsimp only at *
    obtain ⟨o1, o2, o3⟩ := hs j j0 hj
    have r1 : rl (fun i => iv 16 (10 * side + i).toNat) (j + 1).toNat = iv 16 (10 * side + j).toNat :: rl (fun i => iv 16 (10 * side + i).toNat) j.toNat := rl_s j0
    have m1 : 0 ≤ iv 5 (iv 16 (10 * side + j).toNat).toNat * c := Int.mul_nonneg o3.1 b2.1
    have m2 : iv 5 (iv 16 (10 * side + j).toNat).toNat * c ≤ 9 * 600 := Int.mul_le_mul o3.2 (by omega) b2.1 (by omega)
    refine ⟨by omega, fun h => by omega, fun _ => ⟨by omega, by omega, by omega, by omega, by omega, by omega, by omega, by omega, by omega, by omega, by omega, by omega, ih (_, _) ⟨by omega, ?_⟩⟩⟩
    rw [r1]
    dsimp only [losL, lenL]
    rw [← e2]
    omega
abbrev lossM (iv : Nat → Nat → Int) : Int → Int := fun c => lossF (fun i => iv 5 i.toNat) (fun i => iv 4 i.toNat) (iv 0 7) (iv 0 4).toNat c
def mgsOk (iv : Nat → Nat → Int) : Prop := (0 ≤ iv 0 4 ∧ iv 0 4 ≤ 10) ∧ (∀ s, 0 ≤ s → s < iv 0 4 → okMg iv s)
theorem M_choose {G : ZG} {d : Nat} {iv : Nat → Nat → Int} {K : Option AV → AH → Prop} {x1 : Int} (h0 : mgsOk iv) (k : ∀ v : Nat → Nat → Int, ((∀ i, i ≠ 16 → i ≠ 17 → v i = iv i) ∧ rowM v iv (iv 0 4) x1 (iv 0 4).toNat 0 ∧ rowM v iv (iv 0 4) x1 (iv 0 4).toNat 1) → K (some (vi (lossM iv x1))) (mkM v)) : Z G mX12_choose (d + 1) 0 0 0 [vr (some 0), vi x1, vu, vu, vu, vu] [] (mkM iv) K := by
  obtain ⟨hn, hs⟩ := h0
  refine M_chooseRows hn hs (fun v f1 r0 r1 => ?_)
  have kk := k v ⟨f1, r0, r1⟩
  have en : (((iv 0 4).toNat : Nat) : Int) = iv 0 4 := by omega
  have v4 : v 4 = iv 4 := f1 4 (by omega) (by omega)
  have v5 : v 5 = iv 5 := f1 5 (by omega) (by omega)
  have v07 : v 0 7 = iv 0 7 := by rw [f1 0 (by omega) (by omega)]
  have eS : ∀ x, okMg v x ↔ okMg iv x := by intro x; unfold okMg; rw [v4, v5]
  have ok : ∀ side, rowM v iv (iv 0 4) x1 (iv 0 4).toNat side → ∀ i, 0 ≤ i → i < v 17 side.toNat → okMg v (v 16 (10 * side + i).toNat) := by
    intro side r i a b
    have m := r.mem a b
    exact (eS _).mpr (hs _ m.1 (by omega))
  have bd : ∀ p, (0 ≤ losL (fun i => iv 5 i.toNat) (fun i => iv 4 i.toNat) (srtH (iv 5) (iv 4) p (iv 0 4).toNat) ∧ losL (fun i => iv 5 i.toNat) (fun i => iv 4 i.toNat) (srtH (iv 5) (iv 4) p (iv 0 4).toNat) ≤ 54000) := by
    intro p
    have le := srt_len (A := ahd (fun i => iv 5 i.toNat) (fun i => iv 4 i.toNat)) (p := p) (iv 0 4).toNat
    have := lenL_r (h := fun i => iv 5 i.toNat) (l := fun i => iv 4 i.toNat) (srtH (iv 5) (iv 4) p (iv 0 4).toNat) (fun x m => by have := ((srt_mem _).mp m).1; have := hs x this.1 (by omega); exact ⟨this.2.2, this.2.1⟩) (by unfold srtH; omega)
    unfold srtH at *
    omega
  unfold lossM lossF at kk
  rw [en] at kk
  have l0 := r0.le
  have l1 := r1.le
  have b0 := bd (pS (iv 0 4) x1 0)
  apply sX12_choose_137
  refine ⟨fun h => by omega, fun _ => ?_⟩
  refine M_chooseSum (Or.inl rfl) (by omega) r0.2 (ok 0 r0) (by omega) (fun q => ?_) (fun q => ?_)
  · apply sX12_choose_137
    refine ⟨fun h => by omega, fun _ => ?_⟩
    rw [v4] at q
    rw [v07] at q
    rw [show (0 : Int) + 1 = 1 from rfl, v4, v5]
    refine M_chooseSum (Or.inr rfl) (by omega) r1.2 (ok 1 r1) (by omega) (fun q1 => ?_) (fun q1 => ?_)
    · rw [v4, v07] at q1
      apply sX12_choose_137
      refine ⟨fun _ => ?_, fun h => by omega⟩
      rw [if_neg (by unfold srtH at q q1; omega)] at kk
      rw [v4, v5, Int.zero_add]
      exact kk
    · rw [v4, v07] at q1
      unfold srtH at q1
      rw [if_pos (Or.inr q1)] at kk
      exact kk
  · rw [v4, v07] at q
    unfold srtH at q
    rw [if_pos (Or.inl q)] at kk
    exact kk
set_option maxRecDepth 20000 in
theorem sX12_orders_0 {G : ZG} {d : Nat} {iv : Nat → Nat → Int} {K : Option AV → AH → Prop} (h : Z G mX12_orders (d + 2) 0 0 7 [vr (some 0), vi 0, vu, vu] [] (mkM (iu iv 0 25 (-1))) K) : Z G mX12_orders (d + 2) 0 0 0 [vr (some 0), vu, vu, vu] [] (mkM iv) K := (Z_aload_n (dX12_orders 0) rfl (Z_iconst (dX12_orders 1) ⟨by decide, by decide⟩ (Z_putIM (dX12_orders 2) lk_X12_282 sM0 rfl (Or.inl rfl) (Z_iconst (dX12_orders 3) ⟨by decide, by decide⟩ (Z_istore_n (dX12_orders 4) (Nat.le_of_ble_eq_true rfl) rfl h)))))
set_option maxRecDepth 20000 in
theorem sX12_orders_7 {G : ZG} {d : Nat} {iv : Nat → Nat → Int} {K : Option AV → AH → Prop} {x1 : Int} (h : ((zshl 1 (iv 0 4)) ≤ x1 → (((iv 0 25) = (-1) → (K (some (vi 0)) (mkM iv))) ∧ (¬ (iv 0 25) = (-1) → (K (some (vi 1)) (mkM iv))))) ∧ (x1 < (zshl 1 (iv 0 4)) → ((mgsOk iv) ∧ ((∀ (v5 : Nat → Nat → Int), ((∀ i, i ≠ 16 → i ≠ 17 → v5 i = iv i) ∧ rowM v5 iv (iv 0 4) x1 (iv 0 4).toNat 0 ∧ rowM v5 iv (iv 0 4) x1 (iv 0 4).toNat 1) → (((lossM iv x1) = (-1) → ((-2147483648 ≤ (x1 + 1) ∧ (x1 + 1) ≤ 2147483647) ∧ (Z G mX12_orders (d + 2) 0 0 7 [vr (some 0), vi (x1 + 1), vu, vu] [] (mkM v5) K))) ∧ (¬ (lossM iv x1) = (-1) → (((v5 0 25) = (-1) → (Z G mX12_orders (d + 2) 0 0 54 [vr (some 0), vi x1, vu, vi 0] [] (mkM (iu v5 0 25 (lossM iv x1))) K)) ∧ (¬ (v5 0 25) = (-1) → (((lossM iv x1) < (v5 0 25) → (Z G mX12_orders (d + 2) 0 0 54 [vr (some 0), vi x1, vu, vi 0] [] (mkM (iu v5 0 25 (lossM iv x1))) K)) ∧ ((v5 0 25) ≤ (lossM iv x1) → ((-2147483648 ≤ (x1 + 1) ∧ (x1 + 1) ≤ 2147483647) ∧ (Z G mX12_orders (d + 2) 0 0 7 [vr (some 0), vi (x1 + 1), vu, vu] [] (mkM v5) K))))))))))))) : Z G mX12_orders (d + 2) 0 0 7 [vr (some 0), vi x1, vu, vu] [] (mkM iv) K := (Z_iload_n (dX12_orders 5) rfl (Z_iconst (dX12_orders 6) ⟨by decide, by decide⟩ (Z_aload_n (dX12_orders 7) rfl (Z_gIM (x := (iv 0 4)) (dX12_orders 8) lk_X12_218 sM0 (Or.inl rfl) rfl (Z_ishl (dX12_orders 9) (Z_icmp_ge (dX12_orders 10) rfl (fun c1 => (Z_aload_n (dX12_orders 62) rfl (Z_gIM (x := (iv 0 25)) (dX12_orders 63) lk_X12_282 sM0 (Or.inl rfl) rfl (Z_iconst (dX12_orders 64) ⟨by decide, by decide⟩ (Z_icmp_eq (dX12_orders 65) rfl (fun c3 => (Z_iconst (dX12_orders 68) ⟨by decide, by decide⟩ (Z_zreturn (dX12_orders 69) rfl (Or.inl rfl) ((h.1 c1).1 c3)))) (fun c4 => (Z_iconst (dX12_orders 66) ⟨by decide, by decide⟩ (Z_goto (dX12_orders 67) rfl (Z_zreturn (dX12_orders 69) rfl (Or.inr rfl) ((h.1 c1).2 c4)))))))))) (fun c2 => (Z_aload_n (dX12_orders 11) rfl (Z_iload_n (dX12_orders 12) rfl (Z_cVM (As := [vi x1]) (S := []) (dX12_orders 13) lk_X12_285 sM0 (by decide) rfl rfl (Nat.le_of_ble_eq_true rfl) (Nat.le_of_ble_eq_true rfl) (M_choose  (h.2 c2).1 (fun v5 c6 => (Z_istore_n (dX12_orders 14) (Nat.le_of_ble_eq_true rfl) rfl (Z_iload_n (dX12_orders 15) rfl (Z_iconst (dX12_orders 16) ⟨by decide, by decide⟩ (Z_icmp_eq (dX12_orders 17) rfl (fun c7 => (Z_iinc (dX12_orders 60) rfl (Nat.le_of_ble_eq_true rfl) (((h.2 c2).2 v5 c6).1 c7).1 rfl (Z_goto (dX12_orders 61) rfl (Z.fg (L' := [vr (some 0), vi (x1 + 1), vu, vu]) (L := [vr (some 0), vi (x1 + 1), vi (lossM iv x1), vu]) ⟨Or.inl rfl, ⟨Or.inl rfl, ⟨Or.inr rfl, ⟨Or.inl rfl, trivial⟩⟩⟩⟩ (((h.2 c2).2 v5 c6).1 c7).2)))) (fun c8 => (Z_aload_n (dX12_orders 18) rfl (Z_gIM (x := (v5 0 25)) (dX12_orders 19) lk_X12_282 sM0 (Or.inl rfl) rfl (Z_iconst (dX12_orders 20) ⟨by decide, by decide⟩ (Z_icmp_eq (dX12_orders 21) rfl (fun c9 => (Z_aload_n (dX12_orders 27) rfl (Z_iload_n (dX12_orders 28) rfl (Z_putIM (dX12_orders 29) lk_X12_282 sM0 rfl (Or.inl rfl) (Z_iconst (dX12_orders 30) ⟨by decide, by decide⟩ (Z_istore_n (dX12_orders 31) (Nat.le_of_ble_eq_true rfl) rfl (Z.fg (L' := [vr (some 0), vi x1, vu, vi 0]) (L := [vr (some 0), vi x1, vi (lossM iv x1), vi 0]) ⟨Or.inl rfl, ⟨Or.inl rfl, ⟨Or.inr rfl, ⟨Or.inl rfl, trivial⟩⟩⟩⟩ ((((h.2 c2).2 v5 c6).2 c8).1 c9)))))))) (fun c10 => (Z_iload_n (dX12_orders 22) rfl (Z_aload_n (dX12_orders 23) rfl (Z_gIM (x := (v5 0 25)) (dX12_orders 24) lk_X12_282 sM0 (Or.inl rfl) rfl (Z_icmp_lt (dX12_orders 25) rfl (fun c11 => (Z_aload_n (dX12_orders 27) rfl (Z_iload_n (dX12_orders 28) rfl (Z_putIM (dX12_orders 29) lk_X12_282 sM0 rfl (Or.inl rfl) (Z_iconst (dX12_orders 30) ⟨by decide, by decide⟩ (Z_istore_n (dX12_orders 31) (Nat.le_of_ble_eq_true rfl) rfl (Z.fg (L' := [vr (some 0), vi x1, vu, vi 0]) (L := [vr (some 0), vi x1, vi (lossM iv x1), vi 0]) ⟨Or.inl rfl, ⟨Or.inl rfl, ⟨Or.inr rfl, ⟨Or.inl rfl, trivial⟩⟩⟩⟩ (((((h.2 c2).2 v5 c6).2 c8).2 c10).1 c11)))))))) (fun c12 => (Z_goto (dX12_orders 26) rfl (Z_iinc (dX12_orders 60) rfl (Nat.le_of_ble_eq_true rfl) (((((h.2 c2).2 v5 c6).2 c8).2 c10).2 c12).1 rfl (Z_goto (dX12_orders 61) rfl (Z.fg (L' := [vr (some 0), vi (x1 + 1), vu, vu]) (L := [vr (some 0), vi (x1 + 1), vi (lossM iv x1), vu]) ⟨Or.inl rfl, ⟨Or.inl rfl, ⟨Or.inr rfl, ⟨Or.inl rfl, trivial⟩⟩⟩⟩ (((((h.2 c2).2 v5 c6).2 c8).2 c10).2 c12).2)))))))))))))))))))))))))))))))
set_option maxRecDepth 20000 in
theorem sX12_orders_54 {G : ZG} {d : Nat} {iv : Nat → Nat → Int} {K : Option AV → AH → Prop} {x1 x3 : Int} (h : (20 ≤ x3 → (Z G mX12_orders (d + 2) 0 0 80 [vr (some 0), vi x1, vu, vi 0] [] (mkM iv) K)) ∧ (x3 < 20 → ((0 ≤ x3 ∧ x3 < (20 : Nat)) ∧ ((0 ≤ x3 ∧ x3 < (20 : Nat)) ∧ ((-2147483648 ≤ (x3 + 1) ∧ (x3 + 1) ≤ 2147483647) ∧ (Z G mX12_orders (d + 2) 0 0 54 [vr (some 0), vi x1, vu, vi (x3 + 1)] [] (mkM (iu iv 18 ((x3).toNat) (iv 16 ((x3).toNat)))) K)))))) : Z G mX12_orders (d + 2) 0 0 54 [vr (some 0), vi x1, vu, vi x3] [] (mkM iv) K := (Z_iload_n (dX12_orders 32) rfl (Z_bipush (dX12_orders 33) ⟨by decide, by decide⟩ (Z_icmp_ge (dX12_orders 34) rfl (fun c1 => (Z_iconst (dX12_orders 45) ⟨by decide, by decide⟩ (Z_istore_n (dX12_orders 46) (Nat.le_of_ble_eq_true rfl) rfl (h.1 c1)))) (fun c2 => (Z_aload_n (dX12_orders 35) rfl (Z_gRM (r := (some 18)) (dX12_orders 36) lk_X12_72 sM0 rfl rfl (Z_iload_n (dX12_orders 37) rfl (Z_aload_n (dX12_orders 38) rfl (Z_gRM (r := (some 16)) (dX12_orders 39) lk_X12_66 sM0 rfl rfl (Z_iload_n (dX12_orders 40) rfl (Z_ilM (x := (iv 16 ((x3).toNat))) (dX12_orders 41) sM16 (h.2 c2).1 rfl (Z_iastM (dX12_orders 42) sM18 (h.2 c2).2.1 (Z_iinc (dX12_orders 43) rfl (Nat.le_of_ble_eq_true rfl) (h.2 c2).2.2.1 rfl (Z_goto (dX12_orders 44) rfl (h.2 c2).2.2.2))))))))))))))
set_option maxRecDepth 20000 in
theorem sX12_orders_80 {G : ZG} {d : Nat} {iv : Nat → Nat → Int} {K : Option AV → AH → Prop} {x1 x3 : Int} (h : (2 ≤ x3 → ((-2147483648 ≤ (x1 + 1) ∧ (x1 + 1) ≤ 2147483647) ∧ (Z G mX12_orders (d + 2) 0 0 7 [vr (some 0), vi (x1 + 1), vu, vu] [] (mkM iv) K))) ∧ (x3 < 2 → ((0 ≤ x3 ∧ x3 < (2 : Nat)) ∧ ((0 ≤ x3 ∧ x3 < (2 : Nat)) ∧ ((-2147483648 ≤ (x3 + 1) ∧ (x3 + 1) ≤ 2147483647) ∧ (Z G mX12_orders (d + 2) 0 0 80 [vr (some 0), vi x1, vu, vi (x3 + 1)] [] (mkM (iu iv 19 ((x3).toNat) (iv 17 ((x3).toNat)))) K)))))) : Z G mX12_orders (d + 2) 0 0 80 [vr (some 0), vi x1, vu, vi x3] [] (mkM iv) K := (Z_iload_n (dX12_orders 47) rfl (Z_iconst (dX12_orders 48) ⟨by decide, by decide⟩ (Z_icmp_ge (dX12_orders 49) rfl (fun c1 => (Z_iinc (dX12_orders 60) rfl (Nat.le_of_ble_eq_true rfl) (h.1 c1).1 rfl (Z_goto (dX12_orders 61) rfl (Z.fg (L' := [vr (some 0), vi (x1 + 1), vu, vu]) (L := [vr (some 0), vi (x1 + 1), vu, vi x3]) ⟨Or.inl rfl, ⟨Or.inl rfl, ⟨Or.inl rfl, ⟨Or.inr rfl, trivial⟩⟩⟩⟩ (h.1 c1).2)))) (fun c2 => (Z_aload_n (dX12_orders 50) rfl (Z_gRM (r := (some 19)) (dX12_orders 51) lk_X12_75 sM0 rfl rfl (Z_iload_n (dX12_orders 52) rfl (Z_aload_n (dX12_orders 53) rfl (Z_gRM (r := (some 17)) (dX12_orders 54) lk_X12_69 sM0 rfl rfl (Z_iload_n (dX12_orders 55) rfl (Z_ilM (x := (iv 17 ((x3).toNat))) (dX12_orders 56) sM17 (h.2 c2).1 rfl (Z_iastM (dX12_orders 57) sM19 (h.2 c2).2.1 (Z_iinc (dX12_orders 58) rfl (Nat.le_of_ble_eq_true rfl) (h.2 c2).2.2.1 rfl (Z_goto (dX12_orders 59) rfl (h.2 c2).2.2.2))))))))))))))
def rowB (v iv : Nat → Nat → Int) (n code : Int) (m : Nat) (side : Int) : Prop := 0 ≤ v 19 side.toNat ∧ rl (fun i => v 18 (10 * side + i).toNat) (v 19 side.toNat).toNat = srtH (iv 5) (iv 4) (pS n code side) m
theorem M_ordersCopy {G : ZG} {d : Nat} {w : Nat → Nat → Int} {K : Option AV → AH → Prop} {x1 : Int} (hx : -2147483648 ≤ x1 + 1 ∧ x1 + 1 ≤ 2147483647) (k : ∀ u : Nat → Nat → Int, (∀ i, i ≠ 18 → i ≠ 19 → u i = w i) → (∀ i : Int, 0 ≤ i → i < 20 → u 18 i.toNat = w 16 i.toNat) → (∀ i : Int, 0 ≤ i → i < 2 → u 19 i.toNat = w 17 i.toNat) → Z G mX12_orders (d + 2) 0 0 7 [vr (some 0), vi (x1 + 1), vu, vu] [] (mkM u) K) : Z G mX12_orders (d + 2) 0 0 54 [vr (some 0), vi x1, vu, vi 0] [] (mkM w) K := by
  refine lp_up (P := fun j u => Z G mX12_orders (d + 2) 0 0 54 [vr (some 0), vi x1, vu, vi j] [] (mkM u) K) 20 (fun j u => 0 ≤ j ∧ (∀ i, i ≠ 18 → u i = w i) ∧ (∀ i, 0 ≤ i → i < j → u 18 i.toNat = w 16 i.toNat)) ?_ ?_ 0 w (by omega) ⟨by omega, fun _ _ => rfl, fun i a b => by omega⟩
  · rintro u ⟨-, f1, f2⟩
    apply sX12_orders_54
    refine ⟨fun _ => ?_, fun h => by omega⟩
    refine lp_up (P := fun j t => Z G mX12_orders (d + 2) 0 0 80 [vr (some 0), vi x1, vu, vi j] [] (mkM t) K) 2 (fun j t => 0 ≤ j ∧ (∀ i, i ≠ 19 → t i = u i) ∧ (∀ i, 0 ≤ i → i < j → t 19 i.toNat = w 17 i.toNat)) ?_ ?_ 0 u (by omega) ⟨by omega, fun _ _ => rfl, fun i a b => by omega⟩
    · rintro t ⟨-, g1, g2⟩
      apply sX12_orders_80
      refine ⟨fun _ => ⟨hx, k t (fun i a b => by rw [g1 i b, f1 i a]) (fun i a b => by rw [g1 18 (by omega)]; exact f2 i a b) g2⟩, fun h => by omega⟩
    · rintro j t hj ⟨j0, g1, g2⟩ ih
      apply sX12_orders_80
      refine ⟨fun h => by omega, fun _ => ⟨by omega, by omega, by omega, ih _ ⟨by omega, fun i hi => ?_, fun i a b => ?_⟩⟩⟩
      · rw [← g1 i hi]; funext q; exact iu_o hi
      · by_cases e : i = j
        · subst e; rw [iu_eq, g1 17 (by omega), f1 17 (by omega)]
        · rw [iu_k (by omega)]; exact g2 i a (by omega)
  · rintro j u hj ⟨j0, f1, f2⟩ ih
    apply sX12_orders_54
    refine ⟨fun h => by omega, fun _ => ⟨by omega, by omega, by omega, ih _ ⟨by omega, fun i hi => ?_, fun i a b => ?_⟩⟩⟩
    · rw [← f1 i hi]; funext q; exact iu_o hi
    · by_cases e : i = j
      · subst e; rw [iu_eq, f1 16 (by omega)]
      · rw [iu_k (by omega)]; exact f2 i a (by omega)
def MoF (iv v : Nat → Nat → Int) : Prop := ∀ i j, (i < 16 ∨ 19 < i) → ¬ (i = 0 ∧ j = 25) → v i j = iv i j
theorem MoF.row {iv v : Nat → Nat → Int} {i : Nat} (h : MoF iv v) (h1 : i < 16 ∨ 19 < i) (h2 : i ≠ 0) : v i = iv i := by
  funext j; exact h i j h1 (fun q => h2 q.1)
def bestM (iv v : Nat → Nat → Int) (b : Int × Int) : Prop := v 0 25 = b.1 ∧ (¬ b.1 = -1 → ∀ side, (side = 0 ∨ side = 1) → rowB v iv (iv 0 4) b.2 (iv 0 4).toNat side)
theorem M_orders {G : ZG} {d : Nat} {iv : Nat → Nat → Int} {K : Option AV → AH → Prop} (h0 : mgsOk iv) (k : ∀ v : Nat → Nat → Int, (MoF iv v ∧ bestM iv v (bst (lossM iv) (zshl 1 (iv 0 4)).toNat)) → K (some (vi (b01 (¬ v 0 25 = -1)))) (mkM v)) : Z G mX12_orders (d + 2) 0 0 0 [vr (some 0), vu, vu, vu] [] (mkM iv) K := by
  have z := zshl_r h0.1
  apply sX12_orders_0
  refine lp_up (P := fun c v => Z G mX12_orders (d + 2) 0 0 7 [vr (some 0), vi c, vu, vu] [] (mkM v) K) (zshl 1 (iv 0 4)) (fun c v => 0 ≤ c ∧ MoF iv v ∧ bestM iv v (bst (lossM iv) c.toNat)) ?_ ?_ 0 _ (by omega) ⟨by omega, ?_, ?_, ?_⟩
  · rintro v ⟨-, f1, f2⟩
    apply sX12_orders_7
    rw [f1 0 4 (by omega) (by omega)]
    have kk := k v ⟨f1, f2⟩
    unfold b01 at kk
    refine ⟨fun _ => ⟨fun e => ?_, fun e => ?_⟩, fun h => by omega⟩
    · rw [if_neg (fun q => q e)] at kk; exact kk
    · rw [if_pos e] at kk; exact kk
  · rintro c v hc ⟨c0, f1, f2, f3⟩ ih
    apply sX12_orders_7
    have v4 : v 4 = iv 4 := f1.row (by omega) (by omega)
    have v5 : v 5 = iv 5 := f1.row (by omega) (by omega)
    have v04 : v 0 4 = iv 0 4 := f1 0 4 (by omega) (by omega)
    have v07 : v 0 7 = iv 0 7 := f1 0 7 (by omega) (by omega)
    have eL : lossM v c = lossM iv c := by unfold lossM; rw [v4, v5, v04, v07]
    have hv : mgsOk v := by unfold mgsOk okMg; rw [v4, v5, v04]; exact h0
    have b1 : bst (lossM iv) (c + 1).toNat = if lossM iv c = -1 then bst (lossM iv) c.toNat else if v 0 25 = -1 ∨ lossM iv c < v 0 25 then (lossM iv c, c) else bst (lossM iv) c.toNat := by
      rw [show (c + 1).toNat = c.toNat + 1 by omega]
      conv => lhs; unfold bst
      rw [← f2, show ((c.toNat : Nat) : Int) = c by omega]
    rw [v04, eL]
    refine ⟨fun h => by omega, fun _ => ⟨hv, ?_⟩⟩
    rintro w ⟨g1, r0, r1⟩
    have w25 : w 0 25 = v 0 25 := by rw [g1 0 (by omega) (by omega)]
    have fw : MoF iv w := by
      intro i j a b
      rw [g1 i (by omega) (by omega)]
      exact f1 i j a b
    have stay : bst (lossM iv) (c + 1).toNat = bst (lossM iv) c.toNat → Z G mX12_orders (d + 2) 0 0 7 [vr (some 0), vi (c + 1), vu, vu] [] (mkM w) K := by
      intro e
      refine ih w ⟨by omega, fw, ?_⟩
      rw [e]
      refine ⟨by rw [w25]; exact f2, fun n side hsd => ?_⟩
      have := f3 n side hsd
      unfold rowB at *
      rw [g1 18 (by omega) (by omega), g1 19 (by omega) (by omega)]
      exact this
    have put : lossM iv c ≠ -1 → (v 0 25 = -1 ∨ lossM iv c < v 0 25) → Z G mX12_orders (d + 2) 0 0 54 [vr (some 0), vi c, vu, vi 0] [] (mkM (iu w 0 25 (lossM iv c))) K := by
      intro n q
      refine M_ordersCopy (by omega) (fun u p1 p2 p3 => ih u ⟨by omega, ?_, ?_⟩)
      · intro i j a b
        rw [p1 i (by omega) (by omega)]
        rw [← fw i j a b]
        unfold iu
        exact if_neg (by omega)
      · rw [b1, if_neg n, if_pos q]
        refine ⟨by rw [p1 0 (by omega) (by omega), iu_eq], fun _ side hsd => ?_⟩
        have r : rowM w v (iv 0 4) c (iv 0 4).toNat side := by
          rcases hsd with e | e <;> subst e
          · exact r0
          · exact r1
        have le := r.le
        unfold rowM at r
        rw [v4, v5] at r
        have e17 : u 19 side.toNat = w 17 side.toNat := by
          rw [p3 side (by omega) (by omega), iu_o (by omega)]
        have hn := h0.1
        refine ⟨by rw [e17]; exact r.1, ?_⟩
        rw [e17, ← r.2]
        refine rl_congr _ (fun i a b => ?_)
        rw [p2 _ (by omega) (by omega), iu_o (by omega)]
    rw [w25]
    refine ⟨fun e => ⟨by omega, stay (by rw [b1, if_pos e])⟩, fun n => ⟨fun e => put n (Or.inl e), fun e => ⟨fun q => put n (Or.inr q), fun q => ⟨by omega, stay ?_⟩⟩⟩⟩
    rw [b1, if_neg n, if_neg (by intro r; rcases r with r | r; exact e r; exact absurd q (Int.not_le.mpr r))]
  · intro i j a b
    unfold iu
    exact if_neg b
  · exact iu_eq
  · intro n; exact absurd rfl n
set_option maxRecDepth 20000 in
theorem sX12_order_0 {G : ZG} {d : Nat} {iv : Nat → Nat → Int} {K : Option AV → AH → Prop} (h : (mgsOk iv) ∧ ((∀ (v1 : Nat → Nat → Int), (MoF iv v1 ∧ bestM iv v1 (bst (lossM iv) (zshl 1 (iv 0 4)).toNat)) → ((¬ (¬ v1 0 25 = -1) → (K (some (vi (-1))) (mkM (iu v1 0 0 5)))) ∧ (¬ v1 0 25 = -1 → (K (some (vi (v1 0 25))) (mkM (iu v1 0 0 0)))))))) : Z G mX12_order (d + 3) 0 0 0 [vr (some 0)] [] (mkM iv) K := (Z_aload_n (dX12_order 0) rfl (Z_cVM (As := []) (S := []) (dX12_order 1) lk_X12_288 sM0 (by decide) rfl rfl (Nat.le_of_ble_eq_true rfl) (Nat.le_of_ble_eq_true rfl) (M_orders  h.1 (fun v1 c2 => (Z_if_eq (dX12_order 2) rfl (fun c3 => (Z_aload_n (dX12_order 8) rfl (Z_iconst (dX12_order 9) ⟨by decide, by decide⟩ (Z_cVM (As := [vi 5]) (S := []) (dX12_order 10) lk_X12_221 sM0 (by decide) rfl rfl (Nat.le_of_ble_eq_true rfl) (Nat.le_of_ble_eq_true rfl) (M_refuse  ((Z_ireturn (dX12_order 11) rfl ((h.2 v1 c2).1 (b01_0.mp c3))))))))) (fun c4 => (Z_aload_n (dX12_order 3) rfl (Z_aload_n (dX12_order 4) rfl (Z_gIM (x := (v1 0 25)) (dX12_order 5) lk_X12_282 sM0 (Or.inl rfl) rfl (Z_cVM (As := [vi (v1 0 25)]) (S := []) (dX12_order 6) lk_X12_227 sM0 (by decide) rfl rfl (Nat.le_of_ble_eq_true rfl) (Nat.le_of_ble_eq_true rfl) (M_gives  ((Z_goto (dX12_order 7) rfl (Z_ireturn (dX12_order 11) rfl ((h.2 v1 c2).2 (b01_n.mp c4))))))))))))))))
set_option maxRecDepth 20000 in
theorem sX12_sideOf_0 {G : ZG} {d : Nat} {iv : Nat → Nat → Int} {K : Option AV → AH → Prop} {x1 : Int} (h : (0 ≤ x1 ∧ x1 < (iv 0 4) → ((mgsOk iv) ∧ ((∀ (v3 : Nat → Nat → Int), (MoF iv v3 ∧ bestM iv v3 (bst (lossM iv) (zshl 1 (iv 0 4)).toNat)) → ((¬ v3 0 25 = -1 → (Z G mX12_sideOf (d + 3) 0 0 29 [vr (some 0), vi x1, vi 0] [] (mkM v3) K)) ∧ (¬ (¬ v3 0 25 = -1) → (K (some (vi (-1))) (mkM (iu v3 0 0 5))))))))) ∧ (¬ (0 ≤ x1 ∧ x1 < (iv 0 4)) → (K (some (vi (-1))) (mkM (iu iv 0 0 1))))) : Z G mX12_sideOf (d + 3) 0 0 0 [vr (some 0), vi x1, vu] [] (mkM iv) K := (Z_aload_n (dX12_sideOf 0) rfl (Z_iload_n (dX12_sideOf 1) rfl (Z_cVM (As := [vi x1]) (S := []) (dX12_sideOf 2) lk_X12_230 sM0 (by decide) rfl rfl (Nat.le_of_ble_eq_true rfl) (Nat.le_of_ble_eq_true rfl) (M_isSong  ((Z_if_ne (dX12_sideOf 3) rfl (fun c1 => (Z_aload_n (dX12_sideOf 8) rfl (Z_cVM (As := []) (S := []) (dX12_sideOf 9) lk_X12_288 sM0 (by decide) rfl rfl (Nat.le_of_ble_eq_true rfl) (Nat.le_of_ble_eq_true rfl) (M_orders  (h.1 (b01_n.mp c1)).1 (fun v3 c4 => (Z_if_ne (dX12_sideOf 10) rfl (fun c5 => (Z_iconst (dX12_sideOf 15) ⟨by decide, by decide⟩ (Z_istore_n (dX12_sideOf 16) (Nat.le_of_ble_eq_true rfl) rfl (((h.1 (b01_n.mp c1)).2 v3 c4).1 (b01_n.mp c5))))) (fun c6 => (Z_aload_n (dX12_sideOf 11) rfl (Z_iconst (dX12_sideOf 12) ⟨by decide, by decide⟩ (Z_cVM (As := [vi 5]) (S := []) (dX12_sideOf 13) lk_X12_221 sM0 (by decide) rfl rfl (Nat.le_of_ble_eq_true rfl) (Nat.le_of_ble_eq_true rfl) (M_refuse  ((Z_ireturn (dX12_sideOf 14) rfl (((h.1 (b01_n.mp c1)).2 v3 c4).2 (b01_0.mp c6))))))))))))))) (fun c2 => (Z_aload_n (dX12_sideOf 4) rfl (Z_iconst (dX12_sideOf 5) ⟨by decide, by decide⟩ (Z_cVM (As := [vi 1]) (S := []) (dX12_sideOf 6) lk_X12_221 sM0 (by decide) rfl rfl (Nat.le_of_ble_eq_true rfl) (Nat.le_of_ble_eq_true rfl) (M_refuse  ((Z_ireturn (dX12_sideOf 7) rfl (h.2 (b01_0.mp c2)))))))))))))))
set_option maxRecDepth 20000 in
theorem sX12_songAt_0 {G : ZG} {d : Nat} {iv : Nat → Nat → Int} {K : Option AV → AH → Prop} {x1 x2 : Int} (h : (0 ≤ x1 ∧ x1 ≤ 1 → ((mgsOk iv) ∧ ((∀ (v3 : Nat → Nat → Int), (MoF iv v3 ∧ bestM iv v3 (bst (lossM iv) (zshl 1 (iv 0 4)).toNat)) → ((¬ v3 0 25 = -1 → ((x2 < 0 → (K (some (vi (-1))) (mkM (iu v3 0 0 6)))) ∧ (0 ≤ x2 → ((0 ≤ x1 ∧ x1 < (2 : Nat)) ∧ ((x2 < (v3 19 ((x1).toNat)) → ((-2147483648 ≤ (10 * x1) ∧ (10 * x1) ≤ 2147483647) ∧ ((-2147483648 ≤ ((10 * x1) + x2) ∧ ((10 * x1) + x2) ≤ 2147483647) ∧ ((0 ≤ ((10 * x1) + x2) ∧ ((10 * x1) + x2) < (20 : Nat)) ∧ (K (some (vi (v3 18 (((10 * x1) + x2).toNat)))) (mkM (iu v3 0 0 0))))))) ∧ ((v3 19 ((x1).toNat)) ≤ x2 → (K (some (vi (-1))) (mkM (iu v3 0 0 6))))))))) ∧ (¬ (¬ v3 0 25 = -1) → (K (some (vi (-1))) (mkM (iu v3 0 0 5))))))))) ∧ (¬ (0 ≤ x1 ∧ x1 ≤ 1) → (K (some (vi (-1))) (mkM (iu iv 0 0 1))))) : Z G mX12_songAt (d + 3) 0 0 0 [vr (some 0), vi x1, vi x2] [] (mkM iv) K := (Z_iload_n (dX12_songAt 0) rfl (Z_cS (As := [vi x1]) (S := []) (dX12_songAt 1) lk_X12_238 rfl (Nat.le_of_ble_eq_true rfl) (Nat.le_of_ble_eq_true rfl) (M_isSide  ((Z_if_ne (dX12_songAt 2) rfl (fun c1 => (Z_aload_n (dX12_songAt 7) rfl (Z_cVM (As := []) (S := []) (dX12_songAt 8) lk_X12_288 sM0 (by decide) rfl rfl (Nat.le_of_ble_eq_true rfl) (Nat.le_of_ble_eq_true rfl) (M_orders  (h.1 (b01_n.mp c1)).1 (fun v3 c4 => (Z_if_ne (dX12_songAt 9) rfl (fun c5 => (Z_iload_n (dX12_songAt 14) rfl (Z_if_lt (dX12_songAt 15) rfl (fun c7 => (Z_aload_n (dX12_songAt 22) rfl (Z_bipush (dX12_songAt 23) ⟨by decide, by decide⟩ (Z_cVM (As := [vi 6]) (S := []) (dX12_songAt 24) lk_X12_221 sM0 (by decide) rfl rfl (Nat.le_of_ble_eq_true rfl) (Nat.le_of_ble_eq_true rfl) (M_refuse  ((Z_goto (dX12_songAt 25) rfl (Z_ireturn (dX12_songAt 36) rfl ((((h.1 (b01_n.mp c1)).2 v3 c4).1 (b01_n.mp c5)).1 c7))))))))) (fun c8 => (Z_iload_n (dX12_songAt 16) rfl (Z_aload_n (dX12_songAt 17) rfl (Z_gRM (r := (some 19)) (dX12_songAt 18) lk_X12_75 sM0 rfl rfl (Z_iload_n (dX12_songAt 19) rfl (Z_ilM (x := (v3 19 ((x1).toNat))) (dX12_songAt 20) sM19 ((((h.1 (b01_n.mp c1)).2 v3 c4).1 (b01_n.mp c5)).2 c8).1 rfl (Z_icmp_lt (dX12_songAt 21) rfl (fun c9 => (Z_aload_n (dX12_songAt 26) rfl (Z_aload_n (dX12_songAt 27) rfl (Z_gRM (r := (some 18)) (dX12_songAt 28) lk_X12_72 sM0 rfl rfl (Z_bipush (dX12_songAt 29) ⟨by decide, by decide⟩ (Z_iload_n (dX12_songAt 30) rfl (Z_imul (dX12_songAt 31) (((((h.1 (b01_n.mp c1)).2 v3 c4).1 (b01_n.mp c5)).2 c8).2.1 c9).1 (Z_iload_n (dX12_songAt 32) rfl (Z_iadd (dX12_songAt 33) (((((h.1 (b01_n.mp c1)).2 v3 c4).1 (b01_n.mp c5)).2 c8).2.1 c9).2.1 (Z_ilM (x := (v3 18 (((10 * x1) + x2).toNat))) (dX12_songAt 34) sM18 (((((h.1 (b01_n.mp c1)).2 v3 c4).1 (b01_n.mp c5)).2 c8).2.1 c9).2.2.1 rfl (Z_cVM (As := [vi (v3 18 (((10 * x1) + x2).toNat))]) (S := []) (dX12_songAt 35) lk_X12_227 sM0 (by decide) rfl rfl (Nat.le_of_ble_eq_true rfl) (Nat.le_of_ble_eq_true rfl) (M_gives  ((Z_ireturn (dX12_songAt 36) rfl (((((h.1 (b01_n.mp c1)).2 v3 c4).1 (b01_n.mp c5)).2 c8).2.1 c9).2.2.2)))))))))))))) (fun c10 => (Z_aload_n (dX12_songAt 22) rfl (Z_bipush (dX12_songAt 23) ⟨by decide, by decide⟩ (Z_cVM (As := [vi 6]) (S := []) (dX12_songAt 24) lk_X12_221 sM0 (by decide) rfl rfl (Nat.le_of_ble_eq_true rfl) (Nat.le_of_ble_eq_true rfl) (M_refuse  ((Z_goto (dX12_songAt 25) rfl (Z_ireturn (dX12_songAt 36) rfl (((((h.1 (b01_n.mp c1)).2 v3 c4).1 (b01_n.mp c5)).2 c8).2.2 c10))))))))))))))))))) (fun c6 => (Z_aload_n (dX12_songAt 10) rfl (Z_iconst (dX12_songAt 11) ⟨by decide, by decide⟩ (Z_cVM (As := [vi 5]) (S := []) (dX12_songAt 12) lk_X12_221 sM0 (by decide) rfl rfl (Nat.le_of_ble_eq_true rfl) (Nat.le_of_ble_eq_true rfl) (M_refuse  ((Z_ireturn (dX12_songAt 13) rfl (((h.1 (b01_n.mp c1)).2 v3 c4).2 (b01_0.mp c6))))))))))))))) (fun c2 => (Z_aload_n (dX12_songAt 3) rfl (Z_iconst (dX12_songAt 4) ⟨by decide, by decide⟩ (Z_cVM (As := [vi 1]) (S := []) (dX12_songAt 5) lk_X12_221 sM0 (by decide) rfl rfl (Nat.le_of_ble_eq_true rfl) (Nat.le_of_ble_eq_true rfl) (M_refuse  ((Z_ireturn (dX12_songAt 6) rfl (h.2 (b01_0.mp c2))))))))))))))
set_option maxRecDepth 20000 in
theorem sX12_press_0 {G : ZG} {d : Nat} {iv : Nat → Nat → Int} {K : Option AV → AH → Prop} (h : (mgsOk iv) ∧ ((∀ (v1 : Nat → Nat → Int), (MoF iv v1 ∧ bestM iv v1 (bst (lossM iv) (zshl 1 (iv 0 4)).toNat)) → ((¬ v1 0 25 = -1 → (Z G mX12_press (d + 3) 0 0 15 [vr (some 0), vi 0, vu, vu, vu] [] (mkM v1) K)) ∧ (¬ (¬ v1 0 25 = -1) → (K (some (vi 0)) (mkM (iu v1 0 0 5)))))))) : Z G mX12_press (d + 3) 0 0 0 [vr (some 0), vu, vu, vu, vu] [] (mkM iv) K := (Z_aload_n (dX12_press 0) rfl (Z_cVM (As := []) (S := []) (dX12_press 1) lk_X12_288 sM0 (by decide) rfl rfl (Nat.le_of_ble_eq_true rfl) (Nat.le_of_ble_eq_true rfl) (M_orders  h.1 (fun v1 c2 => (Z_if_ne (dX12_press 2) rfl (fun c3 => (Z_iconst (dX12_press 7) ⟨by decide, by decide⟩ (Z_istore_n (dX12_press 8) (Nat.le_of_ble_eq_true rfl) rfl ((h.2 v1 c2).1 (b01_n.mp c3))))) (fun c4 => (Z_aload_n (dX12_press 3) rfl (Z_iconst (dX12_press 4) ⟨by decide, by decide⟩ (Z_cVM (As := [vi 5]) (S := []) (dX12_press 5) lk_X12_205 sM0 (by decide) rfl rfl (Nat.le_of_ble_eq_true rfl) (Nat.le_of_ble_eq_true rfl) (M_isF (by decide) ((Z_zreturn (dX12_press 6) rfl (Or.inl rfl) ((h.2 v1 c2).2 (b01_0.mp c4))))))))))))))

