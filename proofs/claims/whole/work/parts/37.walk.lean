/-! ===== walks over clicks ===== -/
set_option maxRecDepth 20000 in
theorem sX1_walk_0 {G : ZG} {d : Nat} {iv : Nat → Nat → Int} {K : Option AV → AH → Prop} {rv : Nat → Nat → Option Nat} {x1 x2 x3 : Int} (hR : RC rv) (h : Z G mX1_walk (d + 1) 0 0 9 [vr (some 32), vu, vi x2, vi x3, vi 0, vi x1, vi 0] [] (mkC iv rv) K) : Z G mX1_walk (d + 1) 0 0 0 [vr (some 32), vi x1, vi x2, vi x3, vu, vu, vu] [] (mkC iv rv) K := (Z_iconst (dX1_walk 0) ⟨by decide, by decide⟩ (Z_istore (dX1_walk 1) (Nat.le_of_ble_eq_true rfl) rfl (Z_iload_n (dX1_walk 2) rfl (Z_istore (dX1_walk 3) (Nat.le_of_ble_eq_true rfl) rfl (Z_iconst (dX1_walk 4) ⟨by decide, by decide⟩ (Z_istore (dX1_walk 5) (Nat.le_of_ble_eq_true rfl) rfl (Z.fg (L' := [vr (some 32), vu, vi x2, vi x3, vi 0, vi x1, vi 0]) (L := [vr (some 32), vi x1, vi x2, vi x3, vi 0, vi x1, vi 0]) ⟨Or.inl rfl, ⟨Or.inr rfl, ⟨Or.inl rfl, ⟨Or.inl rfl, ⟨Or.inl rfl, ⟨Or.inl rfl, ⟨Or.inl rfl, trivial⟩⟩⟩⟩⟩⟩⟩ h)))))))
set_option maxRecDepth 20000 in
theorem sX1_walk_9 {G : ZG} {d : Nat} {iv : Nat → Nat → Int} {K : Option AV → AH → Prop} {rv : Nat → Nat → Option Nat} {x2 x3 x4 x5 x6 : Int} (hR : RC rv) (h : ((iv 32 3) ≤ x6 → (K (some (vi x4)) (mkC iv rv))) ∧ (x6 < (iv 32 3) → ((x5 = (-1) → (K (some (vi x4)) (mkC iv rv))) ∧ (¬ x5 = (-1) → ((0 ≤ x5 ∧ x5 < (16 : Nat)) ∧ ((-2147483648 ≤ ((iv 33 ((x5).toNat)) + x2) ∧ ((iv 33 ((x5).toNat)) + x2) ≤ 2147483647) ∧ ((0 ≤ x5 ∧ x5 < (16 : Nat)) ∧ ((-2147483648 ≤ (x2 * x3) ∧ (x2 * x3) ≤ 2147483647) ∧ ((-2147483648 ≤ ((iv 34 ((x5).toNat)) + (x2 * x3)) ∧ ((iv 34 ((x5).toNat)) + (x2 * x3)) ≤ 2147483647) ∧ ((0 ≤ iv 32 3 ∧ iv 32 3 ≤ 16) ∧ ((-2147483648 ≤ (x6 + 1) ∧ (x6 + 1) ≤ 2147483647) ∧ (Z G mX1_walk (d + 1) 0 0 9 [vr (some 32), vu, vi x2, vi x3, vi (zor x4 (zshl 1 x5)), vi (ckA (iv 33) (iv 34) (iv 32 3) ((iv 33 ((x5).toNat)) + x2) (zand ((iv 34 ((x5).toNat)) + (x2 * x3)) 7)), vi (x6 + 1)] [] (mkC iv rv) K)))))))))))) : Z G mX1_walk (d + 1) 0 0 9 [vr (some 32), vu, vi x2, vi x3, vi x4, vi x5, vi x6] [] (mkC iv rv) K := (Z_iload (dX1_walk 6) rfl (Z_aload_n (dX1_walk 7) rfl (Z_gIC (x := (iv 32 3)) (dX1_walk 8) lk_X1_21 sC32 (Or.inl rfl) rfl (Z_icmp_ge (dX1_walk 9) rfl (fun c1 => (Z_iload (dX1_walk 40) rfl (Z_ireturn (dX1_walk 41) rfl (h.1 c1)))) (fun c2 => (Z_iload (dX1_walk 10) rfl (Z_iconst (dX1_walk 11) ⟨by decide, by decide⟩ (Z_icmp_eq (dX1_walk 12) rfl (fun c3 => (Z_iload (dX1_walk 40) rfl (Z_ireturn (dX1_walk 41) rfl ((h.2 c2).1 c3)))) (fun c4 => (Z_iload (dX1_walk 13) rfl (Z_iconst (dX1_walk 14) ⟨by decide, by decide⟩ (Z_iload (dX1_walk 15) rfl (Z_ishl (dX1_walk 16) (Z_ior (dX1_walk 17) (Z_istore (dX1_walk 18) (Nat.le_of_ble_eq_true rfl) rfl (Z_aload_n (dX1_walk 19) rfl (Z_aload_n (dX1_walk 20) rfl (Z_gRC (r := (some 33)) (dX1_walk 21) lk_X1_9 sC32 rfl (hR 40) (Z_iload (dX1_walk 22) rfl (Z_ilC (x := (iv 33 ((x5).toNat))) (dX1_walk 23) sC33 ((h.2 c2).2 c4).1 rfl (Z_iload_n (dX1_walk 24) rfl (Z_iadd (dX1_walk 25) ((h.2 c2).2 c4).2.1 (Z_aload_n (dX1_walk 26) rfl (Z_gRC (r := (some 34)) (dX1_walk 27) lk_X1_15 sC32 rfl (hR 41) (Z_iload (dX1_walk 28) rfl (Z_ilC (x := (iv 34 ((x5).toNat))) (dX1_walk 29) sC34 ((h.2 c2).2 c4).2.2.1 rfl (Z_iload_n (dX1_walk 30) rfl (Z_iload_n (dX1_walk 31) rfl (Z_imul (dX1_walk 32) ((h.2 c2).2 c4).2.2.2.1 (Z_iadd (dX1_walk 33) ((h.2 c2).2 c4).2.2.2.2.1 (Z_bipush (dX1_walk 34) ⟨by decide, by decide⟩ (Z_iand (dX1_walk 35) (Z_cVC (As := [vi ((iv 33 ((x5).toNat)) + x2), vi (zand ((iv 34 ((x5).toNat)) + (x2 * x3)) 7)]) (S := []) (dX1_walk 36) lk_X1_51 sC32 (by decide) rfl rfl (Nat.le_of_ble_eq_true rfl) (Nat.le_of_ble_eq_true rfl) (C_findClick hR ((h.2 c2).2 c4).2.2.2.2.2.1 ((Z_istore (dX1_walk 37) (Nat.le_of_ble_eq_true rfl) rfl (Z_iinc (dX1_walk 38) rfl (Nat.le_of_ble_eq_true rfl) ((h.2 c2).2 c4).2.2.2.2.2.2.1 rfl (Z_goto (dX1_walk 39) rfl ((h.2 c2).2 c4).2.2.2.2.2.2.2))))))))))))))))))))))))))))))))))))))
set_option maxRecDepth 20000 in
theorem sX12_through_0 {G : ZG} {d : Nat} {iv : Nat → Nat → Int} {K : Option AV → AH → Prop} {x1 x2 : Int} (h : Z G mX12_through (d + 1) 0 0 5 [vr (some 0), vi x1, vi x2, vi 0, vi (-1), vu, vu, vu, vu] [] (mkM iv) K) : Z G mX12_through (d + 1) 0 0 0 [vr (some 0), vi x1, vi x2, vu, vu, vu, vu, vu, vu] [] (mkM iv) K := (Z_iconst (dX12_through 0) ⟨by decide, by decide⟩ (Z_istore_n (dX12_through 1) (Nat.le_of_ble_eq_true rfl) rfl (Z_iconst (dX12_through 2) ⟨by decide, by decide⟩ (Z_istore (dX12_through 3) (Nat.le_of_ble_eq_true rfl) rfl h))))
set_option maxRecDepth 20000 in
theorem sX12_through_5 {G : ZG} {d : Nat} {iv : Nat → Nat → Int} {K : Option AV → AH → Prop} {x1 x2 x3 x4 : Int} (h : (1 < x4 → (K (some (vi x3)) (mkM iv))) ∧ (x4 ≤ 1 → (Z G mX12_through (d + 1) 0 0 14 [vr (some 0), vi x1, vi x2, vi x3, vi x4, vi 0, vu, vu, vu] [] (mkM iv) K))) : Z G mX12_through (d + 1) 0 0 5 [vr (some 0), vi x1, vi x2, vi x3, vi x4, vu, vu, vu, vu] [] (mkM iv) K := (Z_iload (dX12_through 4) rfl (Z_iconst (dX12_through 5) ⟨by decide, by decide⟩ (Z_icmp_gt (dX12_through 6) rfl (fun c1 => (Z_iload_n (dX12_through 92) rfl (Z_ireturn (dX12_through 93) rfl (h.1 c1)))) (fun c2 => (Z_iconst (dX12_through 7) ⟨by decide, by decide⟩ (Z_istore (dX12_through 8) (Nat.le_of_ble_eq_true rfl) rfl (h.2 c2)))))))
set_option maxRecDepth 20000 in
theorem sX12_through_14 {G : ZG} {d : Nat} {iv : Nat → Nat → Int} {K : Option AV → AH → Prop} {x1 x2 x3 x4 x5 : Int} (h : (0 ≤ x1 ∧ x1 < (16 : Nat)) ∧ ((-2147483648 ≤ (x4 * x5) ∧ (x4 * x5) ≤ 2147483647) ∧ ((-2147483648 ≤ ((iv 21 ((x1).toNat)) + (x4 * x5)) ∧ ((iv 21 ((x1).toNat)) + (x4 * x5)) ≤ 2147483647) ∧ ((0 ≤ x1 ∧ x1 < (16 : Nat)) ∧ ((-2147483648 ≤ (x2 * x4) ∧ (x2 * x4) ≤ 2147483647) ∧ ((-2147483648 ≤ ((x2 * x4) * x5) ∧ ((x2 * x4) * x5) ≤ 2147483647) ∧ ((-2147483648 ≤ ((iv 22 ((x1).toNat)) + ((x2 * x4) * x5)) ∧ ((iv 22 ((x1).toNat)) + ((x2 * x4) * x5)) ≤ 2147483647) ∧ ((-2147483648 ≤ ((((iv 22 ((x1).toNat)) + ((x2 * x4) * x5)).tmod 8) + 8) ∧ ((((iv 22 ((x1).toNat)) + ((x2 * x4) * x5)).tmod 8) + 8) ≤ 2147483647) ∧ ((ckM iv) ∧ ((0 ≤ (((((iv 22 ((x1).toNat)) + ((x2 * x4) * x5)).tmod 8) + 8).tmod 8) ∧ (((((iv 22 ((x1).toNat)) + ((x2 * x4) * x5)).tmod 8) + 8).tmod 8) < 8) ∧ ((¬ (¬ ckA (iv 21) (iv 22) (iv 0 30) ((iv 21 ((x1).toNat)) + (x4 * x5)) (((((iv 22 ((x1).toNat)) + ((x2 * x4) * x5)).tmod 8) + 8).tmod 8) = -1) → ((-2147483648 ≤ (x4 + 2) ∧ (x4 + 2) ≤ 2147483647) ∧ (Z G mX12_through (d + 1) 0 0 5 [vr (some 0), vi x1, vi x2, vi x3, vi (x4 + 2), vu, vu, vu, vu] [] (mkM iv) K))) ∧ (¬ ckA (iv 21) (iv 22) (iv 0 30) ((iv 21 ((x1).toNat)) + (x4 * x5)) (((((iv 22 ((x1).toNat)) + ((x2 * x4) * x5)).tmod 8) + 8).tmod 8) = -1 → ((0 ≤ x1 ∧ x1 < (16 : Nat)) ∧ ((-2147483648 ≤ (x4 * x5) ∧ (x4 * x5) ≤ 2147483647) ∧ ((-2147483648 ≤ ((iv 21 ((x1).toNat)) + (x4 * x5)) ∧ ((iv 21 ((x1).toNat)) + (x4 * x5)) ≤ 2147483647) ∧ ((0 ≤ x1 ∧ x1 < (16 : Nat)) ∧ ((-2147483648 ≤ (x2 * x4) ∧ (x2 * x4) ≤ 2147483647) ∧ ((-2147483648 ≤ ((x2 * x4) * x5) ∧ ((x2 * x4) * x5) ≤ 2147483647) ∧ ((-2147483648 ≤ ((iv 22 ((x1).toNat)) + ((x2 * x4) * x5)) ∧ ((iv 22 ((x1).toNat)) + ((x2 * x4) * x5)) ≤ 2147483647) ∧ ((-2147483648 ≤ ((((iv 22 ((x1).toNat)) + ((x2 * x4) * x5)).tmod 8) + 8) ∧ ((((iv 22 ((x1).toNat)) + ((x2 * x4) * x5)).tmod 8) + 8) ≤ 2147483647) ∧ (Z G mX12_through (d + 1) 0 0 98 [vr (some 0), vi x1, vi x2, vi x3, vi x4, vi x5, vi ((iv 21 ((x1).toNat)) + (x4 * x5)), vi (((((iv 22 ((x1).toNat)) + ((x2 * x4) * x5)).tmod 8) + 8).tmod 8), vi 0] [] (mkM iv) K))))))))))))))))))))) : Z G mX12_through (d + 1) 0 0 14 [vr (some 0), vi x1, vi x2, vi x3, vi x4, vi x5, vu, vu, vu] [] (mkM iv) K := (Z_aload_n (dX12_through 9) rfl (Z_aload_n (dX12_through 10) rfl (Z_gRM (r := (some 21)) (dX12_through 11) lk_X12_82 sM0 rfl rfl (Z_iload_n (dX12_through 12) rfl (Z_ilM (x := (iv 21 ((x1).toNat))) (dX12_through 13) sM21 h.1 rfl (Z_iload (dX12_through 14) rfl (Z_iload (dX12_through 15) rfl (Z_imul (dX12_through 16) h.2.1 (Z_iadd (dX12_through 17) h.2.2.1 (Z_aload_n (dX12_through 18) rfl (Z_gRM (r := (some 22)) (dX12_through 19) lk_X12_85 sM0 rfl rfl (Z_iload_n (dX12_through 20) rfl (Z_ilM (x := (iv 22 ((x1).toNat))) (dX12_through 21) sM22 h.2.2.2.1 rfl (Z_iload_n (dX12_through 22) rfl (Z_iload (dX12_through 23) rfl (Z_imul (dX12_through 24) h.2.2.2.2.1 (Z_iload (dX12_through 25) rfl (Z_imul (dX12_through 26) h.2.2.2.2.2.1 (Z_iadd (dX12_through 27) h.2.2.2.2.2.2.1 (Z_bipush (dX12_through 28) ⟨by decide, by decide⟩ (Z_irem (dX12_through 29) (by decide) (Z_bipush (dX12_through 30) ⟨by decide, by decide⟩ (Z_iadd (dX12_through 31) h.2.2.2.2.2.2.2.1 (Z_bipush (dX12_through 32) ⟨by decide, by decide⟩ (Z_irem (dX12_through 33) (by decide) (Z_cVM (As := [vi ((iv 21 ((x1).toNat)) + (x4 * x5)), vi (((((iv 22 ((x1).toNat)) + ((x2 * x4) * x5)).tmod 8) + 8).tmod 8)]) (S := []) (dX12_through 34) lk_X12_298 sM0 (by decide) rfl rfl (Nat.le_of_ble_eq_true rfl) (Nat.le_of_ble_eq_true rfl) (M_hasClick  h.2.2.2.2.2.2.2.2.1 h.2.2.2.2.2.2.2.2.2.1 ((Z_if_eq (dX12_through 35) rfl (fun c1 => (Z_iinc (dX12_through 90) rfl (Nat.le_of_ble_eq_true rfl) (h.2.2.2.2.2.2.2.2.2.2.1 (b01_0.mp c1)).1 rfl (Z_goto (dX12_through 91) rfl (Z.fg (L' := [vr (some 0), vi x1, vi x2, vi x3, vi (x4 + 2), vu, vu, vu, vu]) (L := [vr (some 0), vi x1, vi x2, vi x3, vi (x4 + 2), vi x5, vu, vu, vu]) ⟨Or.inl rfl, ⟨Or.inl rfl, ⟨Or.inl rfl, ⟨Or.inl rfl, ⟨Or.inl rfl, ⟨Or.inr rfl, ⟨Or.inl rfl, ⟨Or.inl rfl, ⟨Or.inl rfl, trivial⟩⟩⟩⟩⟩⟩⟩⟩⟩ (h.2.2.2.2.2.2.2.2.2.2.1 (b01_0.mp c1)).2)))) (fun c2 => (Z_aload_n (dX12_through 36) rfl (Z_gRM (r := (some 21)) (dX12_through 37) lk_X12_82 sM0 rfl rfl (Z_iload_n (dX12_through 38) rfl (Z_ilM (x := (iv 21 ((x1).toNat))) (dX12_through 39) sM21 (h.2.2.2.2.2.2.2.2.2.2.2 (b01_n.mp c2)).1 rfl (Z_iload (dX12_through 40) rfl (Z_iload (dX12_through 41) rfl (Z_imul (dX12_through 42) (h.2.2.2.2.2.2.2.2.2.2.2 (b01_n.mp c2)).2.1 (Z_iadd (dX12_through 43) (h.2.2.2.2.2.2.2.2.2.2.2 (b01_n.mp c2)).2.2.1 (Z_istore (dX12_through 44) (Nat.le_of_ble_eq_true rfl) rfl (Z_aload_n (dX12_through 45) rfl (Z_gRM (r := (some 22)) (dX12_through 46) lk_X12_85 sM0 rfl rfl (Z_iload_n (dX12_through 47) rfl (Z_ilM (x := (iv 22 ((x1).toNat))) (dX12_through 48) sM22 (h.2.2.2.2.2.2.2.2.2.2.2 (b01_n.mp c2)).2.2.2.1 rfl (Z_iload_n (dX12_through 49) rfl (Z_iload (dX12_through 50) rfl (Z_imul (dX12_through 51) (h.2.2.2.2.2.2.2.2.2.2.2 (b01_n.mp c2)).2.2.2.2.1 (Z_iload (dX12_through 52) rfl (Z_imul (dX12_through 53) (h.2.2.2.2.2.2.2.2.2.2.2 (b01_n.mp c2)).2.2.2.2.2.1 (Z_iadd (dX12_through 54) (h.2.2.2.2.2.2.2.2.2.2.2 (b01_n.mp c2)).2.2.2.2.2.2.1 (Z_bipush (dX12_through 55) ⟨by decide, by decide⟩ (Z_irem (dX12_through 56) (by decide) (Z_bipush (dX12_through 57) ⟨by decide, by decide⟩ (Z_iadd (dX12_through 58) (h.2.2.2.2.2.2.2.2.2.2.2 (b01_n.mp c2)).2.2.2.2.2.2.2.1 (Z_bipush (dX12_through 59) ⟨by decide, by decide⟩ (Z_irem (dX12_through 60) (by decide) (Z_istore (dX12_through 61) (Nat.le_of_ble_eq_true rfl) rfl (Z_iconst (dX12_through 62) ⟨by decide, by decide⟩ (Z_istore (dX12_through 63) (Nat.le_of_ble_eq_true rfl) rfl (h.2.2.2.2.2.2.2.2.2.2.2 (b01_n.mp c2)).2.2.2.2.2.2.2.2))))))))))))))))))))))))))))))))))))))))))))))))))))))))))
set_option maxRecDepth 20000 in
theorem sX12_through_98 {G : ZG} {d : Nat} {iv : Nat → Nat → Int} {K : Option AV → AH → Prop} {x1 x2 x3 x4 x5 x6 x7 x8 : Int} (h : ((iv 0 30) ≤ x8 → ((-2147483648 ≤ (x5 + 1) ∧ (x5 + 1) ≤ 2147483647) ∧ (Z G mX12_through (d + 1) 0 0 14 [vr (some 0), vi x1, vi x2, vi x3, vi x4, vi (x5 + 1), vu, vu, vu] [] (mkM iv) K))) ∧ (x8 < (iv 0 30) → ((0 ≤ x8 ∧ x8 < (16 : Nat)) ∧ ((¬ (iv 21 ((x8).toNat)) = x6 → ((-2147483648 ≤ (x8 + 1) ∧ (x8 + 1) ≤ 2147483647) ∧ (Z G mX12_through (d + 1) 0 0 98 [vr (some 0), vi x1, vi x2, vi x3, vi x4, vi x5, vi x6, vi x7, vi (x8 + 1)] [] (mkM iv) K))) ∧ ((iv 21 ((x8).toNat)) = x6 → ((0 ≤ x8 ∧ x8 < (16 : Nat)) ∧ ((¬ (iv 22 ((x8).toNat)) = x7 → ((-2147483648 ≤ (x8 + 1) ∧ (x8 + 1) ≤ 2147483647) ∧ (Z G mX12_through (d + 1) 0 0 98 [vr (some 0), vi x1, vi x2, vi x3, vi x4, vi x5, vi x6, vi x7, vi (x8 + 1)] [] (mkM iv) K))) ∧ ((iv 22 ((x8).toNat)) = x7 → ((-2147483648 ≤ (x8 + 1) ∧ (x8 + 1) ≤ 2147483647) ∧ (Z G mX12_through (d + 1) 0 0 98 [vr (some 0), vi x1, vi x2, vi (zor x3 (zshl 1 x8)), vi x4, vi x5, vi x6, vi x7, vi (x8 + 1)] [] (mkM iv) K)))))))))) : Z G mX12_through (d + 1) 0 0 98 [vr (some 0), vi x1, vi x2, vi x3, vi x4, vi x5, vi x6, vi x7, vi x8] [] (mkM iv) K := (Z_iload (dX12_through 64) rfl (Z_aload_n (dX12_through 65) rfl (Z_gIM (x := (iv 0 30)) (dX12_through 66) lk_X12_295 sM0 (Or.inl rfl) rfl (Z_icmp_ge (dX12_through 67) rfl (fun c1 => (Z_iinc (dX12_through 88) rfl (Nat.le_of_ble_eq_true rfl) (h.1 c1).1 rfl (Z_goto (dX12_through 89) rfl (Z.fg (L' := [vr (some 0), vi x1, vi x2, vi x3, vi x4, vi (x5 + 1), vu, vu, vu]) (L := [vr (some 0), vi x1, vi x2, vi x3, vi x4, vi (x5 + 1), vi x6, vi x7, vi x8]) ⟨Or.inl rfl, ⟨Or.inl rfl, ⟨Or.inl rfl, ⟨Or.inl rfl, ⟨Or.inl rfl, ⟨Or.inl rfl, ⟨Or.inr rfl, ⟨Or.inr rfl, ⟨Or.inr rfl, trivial⟩⟩⟩⟩⟩⟩⟩⟩⟩ (h.1 c1).2)))) (fun c2 => (Z_aload_n (dX12_through 68) rfl (Z_gRM (r := (some 21)) (dX12_through 69) lk_X12_82 sM0 rfl rfl (Z_iload (dX12_through 70) rfl (Z_ilM (x := (iv 21 ((x8).toNat))) (dX12_through 71) sM21 (h.2 c2).1 rfl (Z_iload (dX12_through 72) rfl (Z_icmp_ne (dX12_through 73) rfl (fun c3 => (Z_iinc (dX12_through 86) rfl (Nat.le_of_ble_eq_true rfl) ((h.2 c2).2.1 c3).1 rfl (Z_goto (dX12_through 87) rfl ((h.2 c2).2.1 c3).2))) (fun c4 => (Z_aload_n (dX12_through 74) rfl (Z_gRM (r := (some 22)) (dX12_through 75) lk_X12_85 sM0 rfl rfl (Z_iload (dX12_through 76) rfl (Z_ilM (x := (iv 22 ((x8).toNat))) (dX12_through 77) sM22 ((h.2 c2).2.2 c4).1 rfl (Z_iload (dX12_through 78) rfl (Z_icmp_ne (dX12_through 79) rfl (fun c5 => (Z_iinc (dX12_through 86) rfl (Nat.le_of_ble_eq_true rfl) (((h.2 c2).2.2 c4).2.1 c5).1 rfl (Z_goto (dX12_through 87) rfl (((h.2 c2).2.2 c4).2.1 c5).2))) (fun c6 => (Z_iload_n (dX12_through 80) rfl (Z_iconst (dX12_through 81) ⟨by decide, by decide⟩ (Z_iload (dX12_through 82) rfl (Z_ishl (dX12_through 83) (Z_ior (dX12_through 84) (Z_istore_n (dX12_through 85) (Nat.le_of_ble_eq_true rfl) rfl (Z_iinc (dX12_through 86) rfl (Nat.le_of_ble_eq_true rfl) (((h.2 c2).2.2 c4).2.2 c6).1 rfl (Z_goto (dX12_through 87) rfl (((h.2 c2).2.2 c4).2.2 c6).2)))))))))))))))))))))))))))
def ckU (f g : Nat → Int) (n : Int) : Prop := (0 ≤ n ∧ n ≤ 16) ∧ (∀ k : Int, 0 ≤ k → k < n → (0 ≤ f k.toNat ∧ f k.toNat < 100) ∧ (0 ≤ g k.toNat ∧ g k.toNat < 8)) ∧ (∀ i j : Int, 0 ≤ i → i < n → 0 ≤ j → j < n → f i.toNat = f j.toNat → g i.toNat = g j.toNat → i = j)
theorem ckA_c {f g : Nat → Int} {n t p : Int} (h : 0 ≤ n) : ckA f g n t p = -1 ∨ ((0 ≤ ckA f g n t p ∧ ckA f g n t p < n) ∧ f (ckA f g n t p).toNat = t ∧ g (ckA f g n t p).toNat = p) := by
  unfold ckA
  rcases ffirst_r (P := fun k => f k.toNat = t ∧ g k.toNat = p) n.toNat 0 (Int.le_refl _) with e | ⟨a, b, c⟩
  · exact Or.inl e
  · exact Or.inr ⟨⟨a, by omega⟩, c⟩
theorem ckA_at {f g : Nat → Int} {n c : Int} (h : ckU f g n) (hc : 0 ≤ c ∧ c < n) : ckA f g n (f c.toNat) (g c.toNat) = c := by
  rcases ckA_c (f := f) (g := g) (t := f c.toNat) (p := g c.toNat) h.1.1 with e | ⟨a, b, q⟩
  · unfold ckA at e
    rw [ffirst_none _ _ (Int.le_refl _)] at e
    exact absurd ⟨rfl, rfl⟩ (e c hc.1 (by omega))
  · exact h.2.2 _ _ a.1 a.2 hc.1 hc.2 b q
theorem ckA_u {f g : Nat → Int} {n t p c : Int} (h : ckU f g n) (hc : 0 ≤ c ∧ c < n) (e1 : f c.toNat = t) (e2 : g c.toNat = p) : ckA f g n t p = c := by
  subst e1 e2; exact ckA_at h hc
/-- the clicks from a place on, a bit for each -/
def wk (f g : Nat → Int) (n w s : Int) : Nat → Int → Int → Nat
  | 0, _, _ => 0
  | F + 1, t, p => if ckA f g n t p = -1 then 0 else 2 ^ (ckA f g n t p).toNat ||| wk f g n w s F (t + w) ((p + w * s) % 8)
theorem wk_bit {f g : Nat → Int} {n w s : Int} (hn : 0 ≤ n) (hw : w = 1 ∨ w = -1) : ∀ (F : Nat) (t p : Int) (b : Nat), (wk f g n w s F t p).testBit b = true → (b : Int) < n ∧ ((w = 1 → t ≤ f b) ∧ (w = -1 → f b ≤ t))
  | 0, t, p, b, h => by unfold wk at h; simp at h
  | F + 1, t, p, b, h => by
    unfold wk at h
    split at h
    · simp at h
    · rename_i q
      rcases ckA_c (f := f) (g := g) (t := t) (p := p) hn with e | ⟨a, e1, e2⟩
      · exact absurd e q
      · rw [Nat.testBit_or, Bool.or_eq_true, Nat.testBit_two_pow] at h
        rcases h with h | h
        · have := of_decide_eq_true h
          subst this
          exact ⟨by omega, fun _ => by omega, fun _ => by omega⟩
        · have := wk_bit hn hw F _ _ b h
          exact ⟨this.1, fun z => by have := this.2.1 z; omega, fun z => by have := this.2.2 z; omega⟩
theorem lt_pw {x m : Nat} (h : ∀ b, x.testBit b = true → b < m) : x < 2 ^ m := by
  apply Nat.lt_pow_two_of_testBit
  intro i hi
  apply Classical.byContradiction
  intro q
  have := h i (by simpa using q)
  omega
theorem lt16 {x m : Nat} (hm : m ≤ 16) (h : ∀ b, x.testBit b = true → b < m) : x < 65536 := lt_pw (m := 16) (fun b q => by have := h b q; omega)
theorem wk_lt {f g : Nat → Int} {n w s : Int} (hn : 0 ≤ n ∧ n ≤ 16) (hw : w = 1 ∨ w = -1) (F : Nat) (t p : Int) : wk f g n w s F t p < 65536 :=
  lt16 (m := n.toNat) (by omega) (fun b h => by have := (wk_bit hn.1 hw F t p b h).1; omega)
theorem wk_pop {f g : Nat → Int} {n s t p : Int} (h : ckU f g n) (ht : 0 ≤ t) : ∀ (F : Nat) (j : Int), 0 ≤ j → t + j ≤ 100 → 100 < t + j + F → (pop 16 (wk f g n 1 s F (t + j) ((p + s * j) % 8)) : Int) + j = ffirst (fun k => ckA f g n (t + k) ((p + s * k) % 8) = -1) j F
  | 0, j, j0, a, b => by omega
  | F + 1, j, j0, a, b => by
    unfold wk ffirst
    split
    · have : pop 16 0 = 0 := by decide
      rw [this]; omega
    · rename_i q
      rcases ckA_c (f := f) (g := g) (t := t + j) (p := (p + s * j) % 8) h.1.1 with e | ⟨c, e1, e2⟩
      · exact absurd e q
      · generalize hc : ckA f g n (t + j) ((p + s * j) % 8) = x at c e1 e2
        have r := (h.2.1 x c.1 c.2).1
        have ih := wk_pop (s := s) (p := p) h ht F (j + 1) (by omega) (by omega) (by omega)
        rw [Int.mul_add, Int.mul_one] at ih
        rw [show ((p + s * j) % 8 + 1 * s) % 8 = (p + (s * j + s)) % 8 by omega, show t + j + 1 = t + (j + 1) by omega, Nat.or_comm, pop_or ?_ 16, if_pos (by have := h.1; omega), ← ih]
        · omega
        · apply Classical.byContradiction
          intro z
          have := (wk_bit h.1.1 (Or.inl rfl) F _ _ _ (by simpa using z)).2.1 rfl
          omega
theorem wk_ln {f g : Nat → Int} {n s t p : Int} (h : ckU f g n) (ht : 0 ≤ t ∧ t < 100) (hp : 0 ≤ p ∧ p < 8) : (pop 16 (wk f g n 1 s 101 t p) : Int) = lnF f g n t p s := by
  have := wk_pop (s := s) (p := p) h ht.1 101 0 (by omega) (by omega) (by omega)
  unfold lnF
  rw [← this, show t + 0 = t by omega, show (p + s * 0) % 8 = p by rw [Int.mul_zero]; omega]
  omega
theorem zand7 {x : Int} (h : -1 ≤ x ∧ x ≤ 8) : zand x 7 = x % 8 := by
  have c : x = -1 ∨ x = 0 ∨ x = 1 ∨ x = 2 ∨ x = 3 ∨ x = 4 ∨ x = 5 ∨ x = 6 ∨ x = 7 ∨ x = 8 := by omega
  rcases c with e | e | e | e | e | e | e | e | e | e <;> subst e <;> decide +kernel
theorem or_pw {a : Nat} {x : Int} (ha : a < 65536) (hx : 0 ≤ x ∧ x < 16) : zor (a : Int) (zshl 1 x) = ((a ||| 2 ^ x.toNat : Nat) : Int) ∧ a ||| 2 ^ x.toNat < 65536 := by
  have p : 2 ^ x.toNat < 65536 := pw_lt (by omega)
  rw [zshl_i (by omega), zor_n (by omega) (by omega)]
  exact ⟨rfl, Nat.or_lt_two_pow (n := 16) ha p⟩
theorem C_walk {G : ZG} {d : Nat} {iv : Nat → Nat → Int} {K : Option AV → AH → Prop} {rv : Nat → Nat → Option Nat} {x1 x2 x3 : Int} (hR : RC rv) (h : ckU (iv 33) (iv 34) (iv 32 3)) (h1 : 0 ≤ x1 ∧ x1 < iv 32 3) (h2 : x2 = 1 ∨ x2 = -1) (h3 : -1 ≤ x3 ∧ x3 ≤ 1) (k : K (some (vi ((wk (iv 33) (iv 34) (iv 32 3) x2 x3 101 (iv 33 x1.toNat) (iv 34 x1.toNat) : Nat) : Int))) (mkC iv rv)) : Z G mX1_walk (d + 1) 0 0 0 [vr (some 32), vi x1, vi x2, vi x3, vu, vu, vu] [] (mkC iv rv) K := by
  apply sX1_walk_0 hR
  generalize hW : wk (iv 33) (iv 34) (iv 32 3) x2 x3 101 (iv 33 x1.toNat) (iv 34 x1.toNat) = W at k
  have x23 : -1 ≤ x2 * x3 ∧ x2 * x3 ≤ 1 := by rcases h2 with e | e <;> subst e <;> omega
  have r1 := h.2.1 x1 h1.1 h1.2
  refine lp_up (σ := Nat × Int) (P := fun j s => Z G mX1_walk (d + 1) 0 0 9 [vr (some 32), vu, vi x2, vi x3, vi (s.1 : Int), vi s.2, vi j] [] (mkC iv rv) K) (iv 32 3) (fun j s => 0 ≤ j ∧ ∃ t p : Int, (0 ≤ p ∧ p < 8) ∧ s.2 = ckA (iv 33) (iv 34) (iv 32 3) t p ∧ s.1 ||| wk (iv 33) (iv 34) (iv 32 3) x2 x3 (101 - j.toNat) t p = W ∧ (pop 16 s.1 : Int) = j ∧ ∀ b : Nat, s.1.testBit b = true → (b : Int) < iv 32 3 ∧ (x2 = 1 → iv 33 b < t) ∧ (x2 = -1 → t < iv 33 b)) ?_ ?_ 0 (0, x1) (by omega) ⟨by omega, iv 33 x1.toNat, iv 34 x1.toNat, r1.2, (ckA_at h h1).symm, by rw [Nat.zero_or]; exact hW, by show ((pop 16 0 : Nat) : Int) = 0; decide, fun b z => by simp at z⟩
  · rintro ⟨S, a⟩ ⟨j0, t, p, hp, ea, eW, eP, hb⟩
    apply sX1_walk_9 hR
    dsimp only at *
    refine ⟨fun _ => ?_, fun z => by omega⟩
    rw [show 101 - (iv 32 3).toNat = (100 - (iv 32 3).toNat) + 1 by have := h.1; omega] at eW
    unfold wk at eW
    rcases ckA_c (f := iv 33) (g := iv 34) (t := t) (p := p) h.1.1 with e | ⟨c, e1, e2⟩
    · rw [if_pos e, Nat.or_zero] at eW
      rw [eW]; exact k
    · exfalso
      rw [← ea] at c e1 e2
      have nb : S.testBit a.toNat = false := by
        apply Classical.byContradiction
        intro z
        have q := (hb _ (by simpa using z)).2
        rcases h2 with e | e
        · have := q.1 e; omega
        · have := q.2 e; omega
      have e3 := pop_or nb 16
      rw [if_pos (by have := h.1; omega)] at e3
      have e4 := pop_up (x := S ||| 2 ^ a.toNat) (m := (iv 32 3).toNat) (fun i hi => by
        apply Classical.byContradiction
        intro z
        rw [Bool.not_eq_false, Nat.testBit_or, Bool.or_eq_true, Nat.testBit_two_pow] at z
        rcases z with z | z
        · have := (hb i z).1; omega
        · have := of_decide_eq_true z; omega) 16 (by have := h.1; omega)
      have e5 := pop_le (iv 32 3).toNat (S ||| 2 ^ a.toNat)
      omega
  · rintro j ⟨S, a⟩ hj ⟨j0, t, p, hp, ea, eW, eP, hb⟩ ih
    apply sX1_walk_9 hR
    dsimp only at *
    rw [show 101 - j.toNat = (101 - (j + 1).toNat) + 1 by have := h.1; omega] at eW
    unfold wk at eW
    refine ⟨fun z => by omega, fun _ => ⟨fun e => ?_, fun n => ?_⟩⟩
    · rw [if_pos (by rw [← ea]; exact e), Nat.or_zero] at eW
      rw [eW]; exact k
    · rw [← ea, if_neg n] at eW
      rcases ckA_c (f := iv 33) (g := iv 34) (t := t) (p := p) h.1.1 with e | ⟨c, e1, e2⟩
      · exact absurd (ea.trans e) n
      · rw [← ea] at c e1 e2
        have r := h.2.1 a c.1 c.2
        have n16 := h.1
        have b16 : a < 16 := by omega
        have o := or_pw (a := S) (x := a) (lt16 (m := (iv 32 3).toNat) (by have := h.1; omega) (fun b z => by have := (hb b z).1; omega)) ⟨c.1, b16⟩
        refine ⟨by omega, by rcases h2 with z | z <;> omega, by omega, by omega, by omega, h.1, by omega, ?_⟩
        rw [o.1, e1, e2, zand7 (by omega)]
        have nb : S.testBit a.toNat = false := by
          apply Classical.byContradiction
          intro z
          have q := (hb _ (by simpa using z)).2
          rcases h2 with e | e
          · have := q.1 e; omega
          · have := q.2 e; omega
        refine ih (_, _) ⟨by omega, t + x2, (p + x2 * x3) % 8, by omega, rfl, ?_, ?_, ?_⟩
        · rw [← eW, Nat.or_assoc]
        · dsimp only
          rw [pop_or nb 16, if_pos (by omega)]; omega
        · intro b z
          dsimp only at z
          rw [Nat.testBit_or, Bool.or_eq_true, Nat.testBit_two_pow] at z
          rcases z with z | z
          · have := hb b z
            exact ⟨this.1, fun q => by have := this.2.1 q; omega, fun q => by have := this.2.2 q; omega⟩
          · have := of_decide_eq_true z
            subst this
            exact ⟨by omega, fun q => by omega, fun q => by omega⟩
theorem M_thr1 {G : ZG} {d : Nat} {iv : Nat → Nat → Int} {K : Option AV → AH → Prop} {x1 x2 x4 : Int} {S : Nat} (hM : ckM iv) (h : ckU (iv 21) (iv 22) (iv 0 30)) (h1 : 0 ≤ x1 ∧ x1 < iv 0 30) (h2 : -1 ≤ x2 ∧ x2 ≤ 1) (h4 : x4 = 1 ∨ x4 = -1) (hS : S < 65536) (k : Z G mX12_through (d + 1) 0 0 5 [vr (some 0), vi x1, vi x2, vi ((S ||| wk (iv 21) (iv 22) (iv 0 30) x4 x2 101 (iv 21 x1.toNat) (iv 22 x1.toNat) : Nat) : Int), vi (x4 + 2), vu, vu, vu, vu] [] (mkM iv) K) : Z G mX12_through (d + 1) 0 0 14 [vr (some 0), vi x1, vi x2, vi (S : Int), vi x4, vi 0, vu, vu, vu] [] (mkM iv) K := by
  generalize hW : S ||| wk (iv 21) (iv 22) (iv 0 30) x4 x2 101 (iv 21 x1.toNat) (iv 22 x1.toNat) = W at k
  have x24 : -1 ≤ x2 * x4 ∧ x2 * x4 ≤ 1 := by rcases h4 with e | e <;> subst e <;> omega
  have r1 := h.2.1 x1 h1.1 h1.2
  have n16 := h.1
  refine lp_up (σ := Nat) (P := fun j s => Z G mX12_through (d + 1) 0 0 14 [vr (some 0), vi x1, vi x2, vi (s : Int), vi x4, vi j, vu, vu, vu] [] (mkM iv) K) 100 (fun j s => 0 ≤ j ∧ s < 65536 ∧ s ||| wk (iv 21) (iv 22) (iv 0 30) x4 x2 (101 - j.toNat) (iv 21 x1.toNat + x4 * j) ((iv 22 x1.toNat + x2 * x4 * j) % 8) = W) ?_ ?_ 0 S (by omega) ⟨by omega, hS, by rw [Int.mul_zero, Int.mul_zero, Int.add_zero, Int.add_zero, show iv 22 x1.toNat % 8 = iv 22 x1.toNat by omega]; exact hW⟩
  · rintro T ⟨-, hT, eW⟩
    have m1 := sl_mul (s := x4) (k := 100) (by omega) (by omega)
    have m2 := sl_mul (s := x2 * x4) (k := 100) x24 (by omega)
    have t1 := Int.lt_tmod_of_pos (iv 22 x1.toNat + x2 * x4 * 100) (show (0 : Int) < 8 by decide)
    have t2 := Int.tmod_lt_of_pos (iv 22 x1.toNat + x2 * x4 * 100) (show (0 : Int) < 8 by decide)
    have o := hM.out (t := iv 21 x1.toNat + x4 * 100) (p := (iv 22 x1.toNat + x2 * x4 * 100) % 8) (by rcases h4 with e | e <;> subst e <;> omega)
    apply sX12_through_14
    rw [show 101 - (100 : Int).toNat = 0 + 1 from rfl] at eW
    unfold wk at eW
    rw [if_pos o, Nat.or_zero] at eW
    rw [mod8]
    refine ⟨by omega, by omega, by omega, by omega, by omega, by omega, by omega, by omega, hM, by omega, fun _ => ⟨by omega, ?_⟩, fun z => absurd o z⟩
    rw [eW]; exact k
  · rintro j T hj ⟨j0, hT, eW⟩ ih
    have m1 := sl_mul (s := x4) (k := j) (by omega) (by omega)
    have m2 := sl_mul (s := x2 * x4) (k := j) x24 (by omega)
    have t1 := Int.lt_tmod_of_pos (iv 22 x1.toNat + x2 * x4 * j) (show (0 : Int) < 8 by decide)
    have t2 := Int.tmod_lt_of_pos (iv 22 x1.toNat + x2 * x4 * j) (show (0 : Int) < 8 by decide)
    apply sX12_through_14
    rw [show 101 - j.toNat = (101 - (j + 1).toNat) + 1 by omega] at eW
    unfold wk at eW
    rw [mod8]
    refine ⟨by omega, by omega, by omega, by omega, by omega, by omega, by omega, by omega, hM, by omega, fun z => ⟨by omega, ?_⟩, fun z => ⟨by omega, by omega, by omega, by omega, by omega, by omega, by omega, by omega, ?_⟩⟩
    · rw [if_pos (Classical.not_not.mp z), Nat.or_zero] at eW
      rw [eW]; exact k
    · rw [if_neg z] at eW
      rcases ckA_c (f := iv 21) (g := iv 22) (t := iv 21 x1.toNat + x4 * j) (p := (iv 22 x1.toNat + x2 * x4 * j) % 8) h.1.1 with e | ⟨c, e1, e2⟩
      · exact absurd e z
      · generalize hc : ckA (iv 21) (iv 22) (iv 0 30) (iv 21 x1.toNat + x4 * j) ((iv 22 x1.toNat + x2 * x4 * j) % 8) = a at c e1 e2 eW z
        have o := or_pw (a := T) (x := a) hT ⟨c.1, by omega⟩
        have eU : ∀ i : Int, 0 ≤ i → i < iv 0 30 → iv 21 i.toNat = iv 21 x1.toNat + x4 * j → iv 22 i.toNat = (iv 22 x1.toNat + x2 * x4 * j) % 8 → i = a := fun i i0 i1 q1 q2 => h.2.2 i a i0 i1 c.1 c.2 (q1.trans e1.symm) (q2.trans e2.symm)
        generalize hX : iv 21 x1.toNat + x4 * j = t at *
        generalize hY : (iv 22 x1.toNat + x2 * x4 * j) % 8 = p at *
        refine lp_up (σ := Nat) (P := fun i s => Z G mX12_through (d + 1) 0 0 98 [vr (some 0), vi x1, vi x2, vi (s : Int), vi x4, vi j, vi t, vi p, vi i] [] (mkM iv) K) (iv 0 30) (fun i s => 0 ≤ i ∧ s = if a < i then T ||| 2 ^ a.toNat else T) ?_ ?_ 0 T (by omega) ⟨by omega, by rw [if_neg (by omega)]⟩
        · rintro U ⟨-, eU2⟩
          rw [if_pos c.2] at eU2
          subst eU2
          apply sX12_through_98
          refine ⟨fun _ => ⟨by omega, ih _ ⟨by omega, o.2, ?_⟩⟩, fun z => by omega⟩
          rw [← eW, Nat.or_assoc, Int.mul_add, Int.mul_add, Int.mul_one, Int.mul_one, show iv 21 x1.toNat + (x4 * j + x4) = t + x4 by omega, show (iv 22 x1.toNat + (x2 * x4 * j + x2 * x4)) % 8 = (p + x4 * x2) % 8 by rw [Int.mul_comm x4 x2]; omega]
        · rintro i U hi ⟨i0, eU2⟩ ihi
          apply sX12_through_98
          refine ⟨fun z => by omega, fun _ => ⟨by omega, fun n => ⟨by omega, ihi _ ⟨by omega, ?_⟩⟩, fun q1 => ⟨by omega, fun n => ⟨by omega, ihi _ ⟨by omega, ?_⟩⟩, fun q2 => ⟨by omega, ?_⟩⟩⟩⟩
          · have ne : i ≠ a := fun z => n (by rw [z]; exact e1)
            rw [eU2]
            by_cases g : a < i
            · rw [if_pos g, if_pos (by omega)]
            · rw [if_neg g, if_neg (by omega)]
          · have ne : i ≠ a := fun z => n (by rw [z]; exact e2)
            rw [eU2]
            by_cases g : a < i
            · rw [if_pos g, if_pos (by omega)]
            · rw [if_neg g, if_neg (by omega)]
          · have ei := eU i i0 hi q1 q2
            subst ei
            rw [if_neg (by omega)] at eU2
            subst eU2
            rw [o.1]
            exact ihi _ ⟨by omega, by rw [if_pos (by omega)]⟩
/-- the clicks of the line through a click, a bit for each -/
def lnS (f g : Nat → Int) (n c s : Int) : Nat := wk f g n (-1) s 101 (f c.toNat) (g c.toNat) ||| wk f g n 1 s 101 (f c.toNat) (g c.toNat)
theorem M_through {G : ZG} {d : Nat} {iv : Nat → Nat → Int} {K : Option AV → AH → Prop} {x1 x2 : Int} (hM : ckM iv) (h : ckU (iv 21) (iv 22) (iv 0 30)) (h1 : 0 ≤ x1 ∧ x1 < iv 0 30) (h2 : -1 ≤ x2 ∧ x2 ≤ 1) (k : K (some (vi ((lnS (iv 21) (iv 22) (iv 0 30) x1 x2 : Nat) : Int))) (mkM iv)) : Z G mX12_through (d + 1) 0 0 0 [vr (some 0), vi x1, vi x2, vu, vu, vu, vu, vu, vu] [] (mkM iv) K := by
  apply sX12_through_0
  apply sX12_through_5
  refine ⟨fun z => by omega, fun _ => ?_⟩
  refine M_thr1 (S := 0) hM h h1 h2 (Or.inr rfl) (by omega) ?_
  rw [Nat.zero_or]
  apply sX12_through_5
  refine ⟨fun z => by omega, fun _ => ?_⟩
  refine M_thr1 hM h h1 h2 (Or.inl rfl) (wk_lt h.1 (Or.inr rfl) _ _ _) ?_
  apply sX12_through_5
  exact ⟨fun _ => k, fun z => by omega⟩

