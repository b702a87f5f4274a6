/-! ===== the fewest lines ===== -/
set_option maxRecDepth 20000 in
theorem sX12_cover_0 {G : ZG} {d : Nat} {iv : Nat → Nat → Int} {K : Option AV → AH → Prop} (h : Z G mX12_cover (d + 2) 0 0 9 [vr (some 0), vi 0, vu, vu, vu] [] (mkM (iu iv 23 0 0)) K) : Z G mX12_cover (d + 2) 0 0 0 [vr (some 0), vu, vu, vu, vu] [] (mkM iv) K := (Z_aload_n (dX12_cover 0) rfl (Z_gRM (r := (some 23)) (dX12_cover 1) lk_X12_89 sM0 rfl rfl (Z_iconst (dX12_cover 2) ⟨by decide, by decide⟩ (Z_iconst (dX12_cover 3) ⟨by decide, by decide⟩ (Z_iastM (dX12_cover 4) sM23 ⟨by decide, by decide⟩ (Z_iconst (dX12_cover 5) ⟨by decide, by decide⟩ (Z_istore_n (dX12_cover 6) (Nat.le_of_ble_eq_true rfl) rfl h)))))))
set_option maxRecDepth 20000 in
theorem sX12_cover_9 {G : ZG} {d : Nat} {iv : Nat → Nat → Int} {K : Option AV → AH → Prop} {x1 : Int} (h : ((iv 0 30) ≤ x1 → (Z G mX12_cover (d + 2) 0 0 56 [vr (some 0), vi 1, vu, vu, vu] [] (mkM iv) K)) ∧ (x1 < (iv 0 30) → (Z G mX12_cover (d + 2) 0 0 19 [vr (some 0), vi x1, vi 0, vu, vu] [] (mkM iv) K))) : Z G mX12_cover (d + 2) 0 0 9 [vr (some 0), vi x1, vu, vu, vu] [] (mkM iv) K := (Z_iload_n (dX12_cover 7) rfl (Z_aload_n (dX12_cover 8) rfl (Z_gIM (x := (iv 0 30)) (dX12_cover 9) lk_X12_295 sM0 (Or.inl rfl) rfl (Z_icmp_ge (dX12_cover 10) rfl (fun c1 => (Z_iconst (dX12_cover 34) ⟨by decide, by decide⟩ (Z_istore_n (dX12_cover 35) (Nat.le_of_ble_eq_true rfl) rfl (h.1 c1)))) (fun c2 => (Z_iconst (dX12_cover 11) ⟨by decide, by decide⟩ (Z_istore_n (dX12_cover 12) (Nat.le_of_ble_eq_true rfl) rfl (h.2 c2))))))))
set_option maxRecDepth 20000 in
theorem sX12_cover_19 {G : ZG} {d : Nat} {iv : Nat → Nat → Int} {K : Option AV → AH → Prop} {x1 x2 : Int} (h : (3 ≤ x2 → ((-2147483648 ≤ (x1 + 1) ∧ (x1 + 1) ≤ 2147483647) ∧ (Z G mX12_cover (d + 2) 0 0 9 [vr (some 0), vi (x1 + 1), vu, vu, vu] [] (mkM iv) K))) ∧ (x2 < 3 → ((-2147483648 ≤ (3 * x1) ∧ (3 * x1) ≤ 2147483647) ∧ ((-2147483648 ≤ ((3 * x1) + x2) ∧ ((3 * x1) + x2) ≤ 2147483647) ∧ ((-2147483648 ≤ (x2 - 1) ∧ (x2 - 1) ≤ 2147483647) ∧ ((ckM iv) ∧ ((ckU (iv 21) (iv 22) (iv 0 30)) ∧ ((0 ≤ x1 ∧ x1 < iv 0 30) ∧ ((-1 ≤ (x2 - 1) ∧ (x2 - 1) ≤ 1) ∧ ((0 ≤ ((3 * x1) + x2) ∧ ((3 * x1) + x2) < (48 : Nat)) ∧ ((-2147483648 ≤ (x2 + 1) ∧ (x2 + 1) ≤ 2147483647) ∧ (Z G mX12_cover (d + 2) 0 0 19 [vr (some 0), vi x1, vi (x2 + 1), vu, vu] [] (mkM (iu iv 24 (((3 * x1) + x2).toNat) ((lnS (iv 21) (iv 22) (iv 0 30) x1 (x2 - 1) : Nat) : Int))) K)))))))))))) : Z G mX12_cover (d + 2) 0 0 19 [vr (some 0), vi x1, vi x2, vu, vu] [] (mkM iv) K := (Z_iload_n (dX12_cover 13) rfl (Z_iconst (dX12_cover 14) ⟨by decide, by decide⟩ (Z_icmp_ge (dX12_cover 15) rfl (fun c1 => (Z_iinc (dX12_cover 32) rfl (Nat.le_of_ble_eq_true rfl) (h.1 c1).1 rfl (Z_goto (dX12_cover 33) rfl (Z.fg (L' := [vr (some 0), vi (x1 + 1), vu, vu, vu]) (L := [vr (some 0), vi (x1 + 1), vi x2, vu, vu]) ⟨Or.inl rfl, ⟨Or.inl rfl, ⟨Or.inr rfl, ⟨Or.inl rfl, ⟨Or.inl rfl, trivial⟩⟩⟩⟩⟩ (h.1 c1).2)))) (fun c2 => (Z_aload_n (dX12_cover 16) rfl (Z_gRM (r := (some 24)) (dX12_cover 17) lk_X12_92 sM0 rfl rfl (Z_iconst (dX12_cover 18) ⟨by decide, by decide⟩ (Z_iload_n (dX12_cover 19) rfl (Z_imul (dX12_cover 20) (h.2 c2).1 (Z_iload_n (dX12_cover 21) rfl (Z_iadd (dX12_cover 22) (h.2 c2).2.1 (Z_aload_n (dX12_cover 23) rfl (Z_iload_n (dX12_cover 24) rfl (Z_iload_n (dX12_cover 25) rfl (Z_iconst (dX12_cover 26) ⟨by decide, by decide⟩ (Z_isub (dX12_cover 27) (h.2 c2).2.2.1 (Z_cVM (As := [vi x1, vi (x2 - 1)]) (S := [vi ((3 * x1) + x2), vr (some 24)]) (dX12_cover 28) lk_X12_318 sM0 (by decide) rfl rfl (Nat.le_of_ble_eq_true rfl) (Nat.le_of_ble_eq_true rfl) (M_through  (h.2 c2).2.2.2.1 (h.2 c2).2.2.2.2.1 (h.2 c2).2.2.2.2.2.1 (h.2 c2).2.2.2.2.2.2.1 ((Z_iastM (dX12_cover 29) sM24 (h.2 c2).2.2.2.2.2.2.2.1 (Z_iinc (dX12_cover 30) rfl (Nat.le_of_ble_eq_true rfl) (h.2 c2).2.2.2.2.2.2.2.2.1 rfl (Z_goto (dX12_cover 31) rfl (h.2 c2).2.2.2.2.2.2.2.2.2))))))))))))))))))))))
set_option maxRecDepth 20000 in
theorem sX12_cover_56 {G : ZG} {d : Nat} {iv : Nat → Nat → Int} {K : Option AV → AH → Prop} {x1 : Int} (h : ((zshl 1 (iv 0 30)) ≤ x1 → ((-2147483648 ≤ ((zshl 1 (iv 0 30)) - 1) ∧ ((zshl 1 (iv 0 30)) - 1) ≤ 2147483647) ∧ ((0 ≤ ((zshl 1 (iv 0 30)) - 1) ∧ ((zshl 1 (iv 0 30)) - 1) < (65536 : Nat)) ∧ (K (some (vi (iv 23 (((zshl 1 (iv 0 30)) - 1).toNat)))) (mkM (iu iv 0 0 0)))))) ∧ (x1 < (zshl 1 (iv 0 30)) → (Z G mX12_cover (d + 2) 0 0 68 [vr (some 0), vi x1, vi 0, vu, vu] [] (mkM iv) K))) : Z G mX12_cover (d + 2) 0 0 56 [vr (some 0), vi x1, vu, vu, vu] [] (mkM iv) K := (Z_iload_n (dX12_cover 36) rfl (Z_iconst (dX12_cover 37) ⟨by decide, by decide⟩ (Z_aload_n (dX12_cover 38) rfl (Z_gIM (x := (iv 0 30)) (dX12_cover 39) lk_X12_295 sM0 (Or.inl rfl) rfl (Z_ishl (dX12_cover 40) (Z_icmp_ge (dX12_cover 41) rfl (fun c1 => (Z_aload_n (dX12_cover 88) rfl (Z_aload_n (dX12_cover 89) rfl (Z_gRM (r := (some 23)) (dX12_cover 90) lk_X12_89 sM0 rfl rfl (Z_iconst (dX12_cover 91) ⟨by decide, by decide⟩ (Z_aload_n (dX12_cover 92) rfl (Z_gIM (x := (iv 0 30)) (dX12_cover 93) lk_X12_295 sM0 (Or.inl rfl) rfl (Z_ishl (dX12_cover 94) (Z_iconst (dX12_cover 95) ⟨by decide, by decide⟩ (Z_isub (dX12_cover 96) (h.1 c1).1 (Z_ilM (x := (iv 23 (((zshl 1 (iv 0 30)) - 1).toNat))) (dX12_cover 97) sM23 (h.1 c1).2.1 rfl (Z_cVM (As := [vi (iv 23 (((zshl 1 (iv 0 30)) - 1).toNat))]) (S := []) (dX12_cover 98) lk_X12_227 sM0 (by decide) rfl rfl (Nat.le_of_ble_eq_true rfl) (Nat.le_of_ble_eq_true rfl) (M_gives  ((Z_ireturn (dX12_cover 99) rfl (h.1 c1).2.2))))))))))))))) (fun c2 => (Z_iconst (dX12_cover 42) ⟨by decide, by decide⟩ (Z_istore_n (dX12_cover 43) (Nat.le_of_ble_eq_true rfl) rfl (h.2 c2))))))))))
set_option maxRecDepth 20000 in
theorem sX12_cover_68 {G : ZG} {d : Nat} {iv : Nat → Nat → Int} {K : Option AV → AH → Prop} {x1 x2 : Int} (h : (¬ (zand (zshr x1 x2) 1) = 0 → (Z G mX12_cover (d + 2) 0 0 89 [vr (some 0), vi x1, vi x2, vi 1000000, vi 0] [] (mkM iv) K)) ∧ ((zand (zshr x1 x2) 1) = 0 → ((-2147483648 ≤ (x2 + 1) ∧ (x2 + 1) ≤ 2147483647) ∧ (Z G mX12_cover (d + 2) 0 0 68 [vr (some 0), vi x1, vi (x2 + 1), vu, vu] [] (mkM iv) K)))) : Z G mX12_cover (d + 2) 0 0 68 [vr (some 0), vi x1, vi x2, vu, vu] [] (mkM iv) K := (Z_iload_n (dX12_cover 44) rfl (Z_iload_n (dX12_cover 45) rfl (Z_ishr (dX12_cover 46) (Z_iconst (dX12_cover 47) ⟨by decide, by decide⟩ (Z_iand (dX12_cover 48) (Z_if_ne (dX12_cover 49) rfl (fun c1 => (Z_ldcw (dX12_cover 52) lk_X12_321 (Z_istore_n (dX12_cover 53) (Nat.le_of_ble_eq_true rfl) rfl (Z_iconst (dX12_cover 54) ⟨by decide, by decide⟩ (Z_istore (dX12_cover 55) (Nat.le_of_ble_eq_true rfl) rfl (h.1 c1)))))) (fun c2 => (Z_iinc (dX12_cover 50) rfl (Nat.le_of_ble_eq_true rfl) (h.2 c2).1 rfl (Z_goto (dX12_cover 51) rfl (h.2 c2).2)))))))))
set_option maxRecDepth 20000 in
theorem sX12_cover_89 {G : ZG} {d : Nat} {iv : Nat → Nat → Int} {K : Option AV → AH → Prop} {x1 x2 x3 x4 : Int} (h : (3 ≤ x4 → ((0 ≤ x1 ∧ x1 < (65536 : Nat)) ∧ ((-2147483648 ≤ (x1 + 1) ∧ (x1 + 1) ≤ 2147483647) ∧ (Z G mX12_cover (d + 2) 0 0 56 [vr (some 0), vi (x1 + 1), vu, vu, vu] [] (mkM (iu iv 23 ((x1).toNat) x3)) K)))) ∧ (x4 < 3 → ((-2147483648 ≤ (3 * x2) ∧ (3 * x2) ≤ 2147483647) ∧ ((-2147483648 ≤ ((3 * x2) + x4) ∧ ((3 * x2) + x4) ≤ 2147483647) ∧ ((0 ≤ ((3 * x2) + x4) ∧ ((3 * x2) + x4) < (48 : Nat)) ∧ ((0 ≤ (zand x1 (zxor (iv 24 (((3 * x2) + x4).toNat)) (-1))) ∧ (zand x1 (zxor (iv 24 (((3 * x2) + x4).toNat)) (-1))) < (65536 : Nat)) ∧ ((-2147483648 ≤ (1 + (iv 23 ((zand x1 (zxor (iv 24 (((3 * x2) + x4).toNat)) (-1))).toNat))) ∧ (1 + (iv 23 ((zand x1 (zxor (iv 24 (((3 * x2) + x4).toNat)) (-1))).toNat))) ≤ 2147483647) ∧ ((-2147483648 ≤ (x4 + 1) ∧ (x4 + 1) ≤ 2147483647) ∧ (Z G mX12_cover (d + 2) 0 0 89 [vr (some 0), vi x1, vi x2, vi (min x3 (1 + (iv 23 ((zand x1 (zxor (iv 24 (((3 * x2) + x4).toNat)) (-1))).toNat)))), vi (x4 + 1)] [] (mkM iv) K))))))))) : Z G mX12_cover (d + 2) 0 0 89 [vr (some 0), vi x1, vi x2, vi x3, vi x4] [] (mkM iv) K := (Z_iload (dX12_cover 56) rfl (Z_iconst (dX12_cover 57) ⟨by decide, by decide⟩ (Z_icmp_ge (dX12_cover 58) rfl (fun c1 => (Z_aload_n (dX12_cover 81) rfl (Z_gRM (r := (some 23)) (dX12_cover 82) lk_X12_89 sM0 rfl rfl (Z_iload_n (dX12_cover 83) rfl (Z_iload_n (dX12_cover 84) rfl (Z_iastM (dX12_cover 85) sM23 (h.1 c1).1 (Z_iinc (dX12_cover 86) rfl (Nat.le_of_ble_eq_true rfl) (h.1 c1).2.1 rfl (Z_goto (dX12_cover 87) rfl (Z.fg (L' := [vr (some 0), vi (x1 + 1), vu, vu, vu]) (L := [vr (some 0), vi (x1 + 1), vi x2, vi x3, vi x4]) ⟨Or.inl rfl, ⟨Or.inl rfl, ⟨Or.inr rfl, ⟨Or.inr rfl, ⟨Or.inr rfl, trivial⟩⟩⟩⟩⟩ (h.1 c1).2.2))))))))) (fun c2 => (Z_iload_n (dX12_cover 59) rfl (Z_iconst (dX12_cover 60) ⟨by decide, by decide⟩ (Z_aload_n (dX12_cover 61) rfl (Z_gRM (r := (some 23)) (dX12_cover 62) lk_X12_89 sM0 rfl rfl (Z_iload_n (dX12_cover 63) rfl (Z_aload_n (dX12_cover 64) rfl (Z_gRM (r := (some 24)) (dX12_cover 65) lk_X12_92 sM0 rfl rfl (Z_iconst (dX12_cover 66) ⟨by decide, by decide⟩ (Z_iload_n (dX12_cover 67) rfl (Z_imul (dX12_cover 68) (h.2 c2).1 (Z_iload (dX12_cover 69) rfl (Z_iadd (dX12_cover 70) (h.2 c2).2.1 (Z_ilM (x := (iv 24 (((3 * x2) + x4).toNat))) (dX12_cover 71) sM24 (h.2 c2).2.2.1 rfl (Z_iconst (dX12_cover 72) ⟨by decide, by decide⟩ (Z_ixor (dX12_cover 73) (Z_iand (dX12_cover 74) (Z_ilM (x := (iv 23 ((zand x1 (zxor (iv 24 (((3 * x2) + x4).toNat)) (-1))).toNat))) (dX12_cover 75) sM23 (h.2 c2).2.2.2.1 rfl (Z_iadd (dX12_cover 76) (h.2 c2).2.2.2.2.1 (Z_min (dX12_cover 77) lk_X12_276 mt_min_s mt_ini mt_min_c (Nat.le_of_ble_eq_true rfl) (Z_istore_n (dX12_cover 78) (Nat.le_of_ble_eq_true rfl) rfl (Z_iinc (dX12_cover 79) rfl (Nat.le_of_ble_eq_true rfl) (h.2 c2).2.2.2.2.2.1 rfl (Z_goto (dX12_cover 80) rfl (h.2 c2).2.2.2.2.2.2))))))))))))))))))))))))))
set_option maxRecDepth 20000 in
theorem sX1_isVain_0 {G : ZG} {d : Nat} {iv : Nat → Nat → Int} {K : Option AV → AH → Prop} {rv : Nat → Nat → Option Nat} {x1 x2 x3 : Int} (hR : RC rv) (h : (-2147483648 ≤ (x1 + x2) ∧ (x1 + x2) ≤ 2147483647) ∧ ((0 ≤ (x1 + x2) ∧ (x1 + x2) < (48 : Nat)) ∧ (Z G mX1_isVain d 0 0 12 [vr (some 35), vi x1, vi x2, vi x3, vi (zand (iv 35 ((x1 + x2).toNat)) x3), vi 0, vu] [] (mkC iv rv) K))) : Z G mX1_isVain d 0 0 0 [vr (some 35), vi x1, vi x2, vi x3, vu, vu, vu] [] (mkC iv rv) K := (Z_aload_n (dX1_isVain 0) rfl (Z_iload_n (dX1_isVain 1) rfl (Z_iload_n (dX1_isVain 2) rfl (Z_iadd (dX1_isVain 3) h.1 (Z_ilC (x := (iv 35 ((x1 + x2).toNat))) (dX1_isVain 4) sC35 h.2.1 rfl (Z_iload_n (dX1_isVain 5) rfl (Z_iand (dX1_isVain 6) (Z_istore (dX1_isVain 7) (Nat.le_of_ble_eq_true rfl) rfl (Z_iconst (dX1_isVain 8) ⟨by decide, by decide⟩ (Z_istore (dX1_isVain 9) (Nat.le_of_ble_eq_true rfl) rfl h.2.2))))))))))
set_option maxRecDepth 20000 in
theorem sX1_isVain_12 {G : ZG} {d : Nat} {iv : Nat → Nat → Int} {K : Option AV → AH → Prop} {rv : Nat → Nat → Option Nat} {x1 x2 x3 x4 x5 : Int} (hR : RC rv) (h : (3 ≤ x5 → (K (some (vi 0)) (mkC iv rv))) ∧ (x5 < 3 → ((-2147483648 ≤ (x1 + x5) ∧ (x1 + x5) ≤ 2147483647) ∧ ((0 ≤ (x1 + x5) ∧ (x1 + x5) < (48 : Nat)) ∧ ((x5 = x2 → ((-2147483648 ≤ (x5 + 1) ∧ (x5 + 1) ≤ 2147483647) ∧ (Z G mX1_isVain d 0 0 12 [vr (some 35), vi x1, vi x2, vi x3, vi x4, vi (x5 + 1), vu] [] (mkC iv rv) K))) ∧ (¬ x5 = x2 → ((¬ (zand x4 (zxor (zand (iv 35 ((x1 + x5).toNat)) x3) (-1))) = 0 → ((-2147483648 ≤ (x5 + 1) ∧ (x5 + 1) ≤ 2147483647) ∧ (Z G mX1_isVain d 0 0 12 [vr (some 35), vi x1, vi x2, vi x3, vi x4, vi (x5 + 1), vu] [] (mkC iv rv) K))) ∧ ((zand x4 (zxor (zand (iv 35 ((x1 + x5).toNat)) x3) (-1))) = 0 → ((¬ x4 = (zand (iv 35 ((x1 + x5).toNat)) x3) → (K (some (vi 1)) (mkC iv rv))) ∧ (x4 = (zand (iv 35 ((x1 + x5).toNat)) x3) → ((x2 ≤ x5 → ((-2147483648 ≤ (x5 + 1) ∧ (x5 + 1) ≤ 2147483647) ∧ (Z G mX1_isVain d 0 0 12 [vr (some 35), vi x1, vi x2, vi x3, vi x4, vi (x5 + 1), vu] [] (mkC iv rv) K))) ∧ (x5 < x2 → (K (some (vi 1)) (mkC iv rv)))))))))))))) : Z G mX1_isVain d 0 0 12 [vr (some 35), vi x1, vi x2, vi x3, vi x4, vi x5, vu] [] (mkC iv rv) K := (Z_iload (dX1_isVain 10) rfl (Z_iconst (dX1_isVain 11) ⟨by decide, by decide⟩ (Z_icmp_ge (dX1_isVain 12) rfl (fun c1 => (Z_iconst (dX1_isVain 40) ⟨by decide, by decide⟩ (Z_zreturn (dX1_isVain 41) rfl (Or.inl rfl) (h.1 c1)))) (fun c2 => (Z_aload_n (dX1_isVain 13) rfl (Z_iload_n (dX1_isVain 14) rfl (Z_iload (dX1_isVain 15) rfl (Z_iadd (dX1_isVain 16) (h.2 c2).1 (Z_ilC (x := (iv 35 ((x1 + x5).toNat))) (dX1_isVain 17) sC35 (h.2 c2).2.1 rfl (Z_iload_n (dX1_isVain 18) rfl (Z_iand (dX1_isVain 19) (Z_istore (dX1_isVain 20) (Nat.le_of_ble_eq_true rfl) rfl (Z_iload (dX1_isVain 21) rfl (Z_iload_n (dX1_isVain 22) rfl (Z_icmp_eq (dX1_isVain 23) rfl (fun c3 => (Z_iinc (dX1_isVain 38) rfl (Nat.le_of_ble_eq_true rfl) ((h.2 c2).2.2.1 c3).1 rfl (Z_goto (dX1_isVain 39) rfl (Z.fg (L' := [vr (some 35), vi x1, vi x2, vi x3, vi x4, vi (x5 + 1), vu]) (L := [vr (some 35), vi x1, vi x2, vi x3, vi x4, vi (x5 + 1), vi (zand (iv 35 ((x1 + x5).toNat)) x3)]) ⟨Or.inl rfl, ⟨Or.inl rfl, ⟨Or.inl rfl, ⟨Or.inl rfl, ⟨Or.inl rfl, ⟨Or.inl rfl, ⟨Or.inr rfl, trivial⟩⟩⟩⟩⟩⟩⟩ ((h.2 c2).2.2.1 c3).2)))) (fun c4 => (Z_iload (dX1_isVain 24) rfl (Z_iload (dX1_isVain 25) rfl (Z_iconst (dX1_isVain 26) ⟨by decide, by decide⟩ (Z_ixor (dX1_isVain 27) (Z_iand (dX1_isVain 28) (Z_if_ne (dX1_isVain 29) rfl (fun c5 => (Z_iinc (dX1_isVain 38) rfl (Nat.le_of_ble_eq_true rfl) (((h.2 c2).2.2.2 c4).1 c5).1 rfl (Z_goto (dX1_isVain 39) rfl (Z.fg (L' := [vr (some 35), vi x1, vi x2, vi x3, vi x4, vi (x5 + 1), vu]) (L := [vr (some 35), vi x1, vi x2, vi x3, vi x4, vi (x5 + 1), vi (zand (iv 35 ((x1 + x5).toNat)) x3)]) ⟨Or.inl rfl, ⟨Or.inl rfl, ⟨Or.inl rfl, ⟨Or.inl rfl, ⟨Or.inl rfl, ⟨Or.inl rfl, ⟨Or.inr rfl, trivial⟩⟩⟩⟩⟩⟩⟩ (((h.2 c2).2.2.2 c4).1 c5).2)))) (fun c6 => (Z_iload (dX1_isVain 30) rfl (Z_iload (dX1_isVain 31) rfl (Z_icmp_ne (dX1_isVain 32) rfl (fun c7 => (Z_iconst (dX1_isVain 36) ⟨by decide, by decide⟩ (Z_zreturn (dX1_isVain 37) rfl (Or.inr rfl) ((((h.2 c2).2.2.2 c4).2 c6).1 c7)))) (fun c8 => (Z_iload (dX1_isVain 33) rfl (Z_iload_n (dX1_isVain 34) rfl (Z_icmp_ge (dX1_isVain 35) rfl (fun c9 => (Z_iinc (dX1_isVain 38) rfl (Nat.le_of_ble_eq_true rfl) (((((h.2 c2).2.2.2 c4).2 c6).2 c8).1 c9).1 rfl (Z_goto (dX1_isVain 39) rfl (Z.fg (L' := [vr (some 35), vi x1, vi x2, vi x3, vi x4, vi (x5 + 1), vu]) (L := [vr (some 35), vi x1, vi x2, vi x3, vi x4, vi (x5 + 1), vi (zand (iv 35 ((x1 + x5).toNat)) x3)]) ⟨Or.inl rfl, ⟨Or.inl rfl, ⟨Or.inl rfl, ⟨Or.inl rfl, ⟨Or.inl rfl, ⟨Or.inl rfl, ⟨Or.inr rfl, trivial⟩⟩⟩⟩⟩⟩⟩ (((((h.2 c2).2.2.2 c4).2 c6).2 c8).1 c9).2)))) (fun c10 => (Z_iconst (dX1_isVain 36) ⟨by decide, by decide⟩ (Z_zreturn (dX1_isVain 37) rfl (Or.inr rfl) (((((h.2 c2).2.2.2 c4).2 c6).2 c8).2 c10))))))))))))))))))))))))))))))))))
/-- x without y -/
def sdf (x y : Nat) : Nat := x &&& (65535 ^^^ y)
theorem sdf_b {x y i : Nat} (hx : x < 65536) : (sdf x y).testBit i = (x.testBit i && !y.testBit i) := by
  unfold sdf
  rw [Nat.testBit_and, Nat.testBit_xor, show 65535 = 2 ^ 16 - 1 from rfl, Nat.testBit_two_pow_sub_one]
  by_cases h : i < 16
  · rw [decide_eq_true h]; cases x.testBit i <;> cases y.testBit i <;> rfl
  · rw [Nat.testBit_lt_two_pow (x := x) (i := i) (Nat.lt_of_lt_of_le hx (Nat.pow_le_pow_right (n := 2) (by decide) (show 16 ≤ i by omega)))]
    rfl
theorem sdf_le (x y : Nat) : sdf x y ≤ x := Nat.and_le_left
theorem sdf_lt {x y c : Nat} (hx : x < 65536) (h1 : x.testBit c = true) (h2 : y.testBit c = true) : sdf x y < x := by
  have a := sdf_le x y
  rcases Nat.lt_or_eq_of_le a with b | b
  · exact b
  · have e := sdf_b (y := y) (i := c) hx
    rw [b, h1, h2] at e
    exact absurd e (by decide)
def sb (x y : Nat) : Prop := ∀ i, x.testBit i = true → y.testBit i = true
theorem sb_le {x y : Nat} (h : sb x y) : x ≤ y := by
  have e : x &&& y = x := by
    apply Nat.eq_of_testBit_eq
    intro i
    rw [Nat.testBit_and]
    cases q : x.testBit i
    · rfl
    · rw [h i q]; rfl
  rw [← e]
  exact Nat.and_le_right
theorem lob_b {x : Nat} (h0 : x ≠ 0) (hx : x < 65536) : x.testBit (lob 16 x) = true ∧ ∀ i, i < lob 16 x → x.testBit i = false := by
  obtain ⟨q, e⟩ := lob_e 16 x h0 hx
  have t : ∀ i, x.testBit i = if i < lob 16 x then (0 : Nat).testBit i else (2 * q + 1).testBit (i - lob 16 x) := by
    intro i
    conv => lhs; rw [e, show 2 ^ lob 16 x * (2 * q + 1) = 2 ^ lob 16 x * (2 * q + 1) + 0 by omega]
    rw [Nat.testBit_two_pow_mul_add _ (Nat.two_pow_pos _)]
  refine ⟨?_, fun i hi => ?_⟩
  · rw [t, if_neg (by omega), Nat.sub_self, Nat.testBit_zero]; simp
  · rw [t, if_pos hi, Nat.zero_testBit]
theorem lob_u {x c : Nat} (hx : x < 65536) (h1 : x.testBit c = true) (h2 : ∀ i, i < c → x.testBit i = false) : lob 16 x = c := by
  have h0 : x ≠ 0 := fun z => by rw [z] at h1; simp at h1
  have b := lob_b h0 hx
  rcases Nat.lt_trichotomy (lob 16 x) c with q | q | q
  · have := h2 _ q; rw [b.1] at this; exact absurd this (by decide)
  · exact q
  · have := b.2 _ q; rw [h1] at this; exact absurd this (by decide)
theorem bit_lt {x n c : Nat} (hx : x < 2 ^ n) (h : x.testBit c = true) : c < n := by
  apply Classical.byContradiction
  intro z
  have := Nat.testBit_lt_two_pow (x := x) (i := c) (Nat.lt_of_lt_of_le hx (Nat.pow_le_pow_right (n := 2) (by decide) (show n ≤ c by omega)))
  rw [h] at this
  exact absurd this (by decide)
def cst (T : Nat → Int) (L : Int → Nat) (x : Nat) : Int := min (min (min 1000000 (1 + T (sdf x (L (3 * (lob 16 x : Int) + 0))))) (1 + T (sdf x (L (3 * (lob 16 x : Int) + 1))))) (1 + T (sdf x (L (3 * (lob 16 x : Int) + 2))))
/-- the table of the fewest lines, filled up to a number -/
def tab (L : Int → Nat) : Nat → Nat → Int
  | 0, _ => 0
  | k + 1, x => if x = k + 1 then cst (tab L k) L (k + 1) else tab L k x
def cvT (L : Int → Nat) (x : Nat) : Int := tab L x x
theorem tab_st {L : Int → Nat} {x : Nat} : ∀ k, x ≤ k → tab L k x = cvT L x
  | 0, h => by rw [show x = 0 by omega]; rfl
  | k + 1, h => by
    by_cases e : x = k + 1
    · subst e; rfl
    · unfold tab
      rw [if_neg e]
      exact tab_st k (by omega)
theorem cvT_0 {L : Int → Nat} : cvT L 0 = 0 := rfl
def LOk (L : Int → Nat) (n : Nat) : Prop := n ≤ 16 ∧ (∀ c : Nat, c < n → ∀ s : Int, 0 ≤ s → s < 3 → (L (3 * (c : Int) + s)).testBit c = true) ∧ (∀ b c : Nat, b < n → c < n → ∀ s : Int, 0 ≤ s → s < 3 → (L (3 * (b : Int) + s)).testBit c = true → sb (L (3 * (b : Int) + s)) (L (3 * (c : Int) + s)))
theorem LOk.own {L : Int → Nat} {n : Nat} (h : LOk L n) (c : Nat) (hc : c < n) (s : Int) (a : 0 ≤ s) (b : s < 3) : (L (3 * (c : Int) + s)).testBit c = true := h.2.1 c hc s a b
theorem LOk.lt {L : Int → Nat} {n x : Nat} (h : LOk L n) (hx : x < 2 ^ n) : x < 65536 := Nat.lt_of_lt_of_le hx (Nat.pow_le_pow_right (n := 2) (by decide) h.1)
theorem LOk.cut {L : Int → Nat} {n x : Nat} (h : LOk L n) (hx : x < 2 ^ n) (h0 : x ≠ 0) {s : Int} (s0 : 0 ≤ s) (s3 : s < 3) : sdf x (L (3 * (lob 16 x : Int) + s)) < x := by
  have b := (lob_b h0 (h.lt hx)).1
  exact sdf_lt (h.lt hx) b (h.own _ (bit_lt hx b) s s0 s3)
theorem cvT_e {L : Int → Nat} {n x : Nat} (h : LOk L n) (hx : x < 2 ^ n) (h0 : x ≠ 0) : cvT L x = cst (cvT L) L x := by
  obtain ⟨k, e⟩ : ∃ k, x = k + 1 := ⟨x - 1, by omega⟩
  have c := fun s a b => h.cut hx h0 (s := s) a b
  subst e
  have u : cvT L (k + 1) = cst (tab L k) L (k + 1) := by
    show tab L (k + 1) (k + 1) = _
    conv => lhs; unfold tab
    rw [if_pos rfl]
  rw [u]
  unfold cst
  have c0 := c 0 (by omega) (by omega)
  have c1 := c 1 (by omega) (by omega)
  have c2 := c 2 (by omega) (by omega)
  rw [tab_st k (by omega), tab_st k (by omega), tab_st k (by omega)]
theorem tab_r {L : Int → Nat} : ∀ k x, 0 ≤ tab L k x ∧ tab L k x ≤ 1000000
  | 0, x => by unfold tab; omega
  | k + 1, x => by
    unfold tab
    have ih := tab_r (L := L) k
    split
    · unfold cst
      have a := ih (sdf (k + 1) (L (3 * (lob 16 (k + 1) : Int) + 0)))
      have b := ih (sdf (k + 1) (L (3 * (lob 16 (k + 1) : Int) + 1)))
      have c := ih (sdf (k + 1) (L (3 * (lob 16 (k + 1) : Int) + 2)))
      omega
    · exact ih x
theorem cvT_r {L : Int → Nat} (x : Nat) : 0 ≤ cvT L x ∧ cvT L x ≤ 1000000 := tab_r x x
theorem cvT_le {L : Int → Nat} {n x : Nat} (h : LOk L n) (hx : x < 2 ^ n) (h0 : x ≠ 0) {s : Int} (s0 : 0 ≤ s) (s3 : s < 3) : cvT L x ≤ 1 + cvT L (sdf x (L (3 * (lob 16 x : Int) + s))) := by
  rw [cvT_e h hx h0]
  unfold cst
  have c : s = 0 ∨ s = 1 ∨ s = 2 := by omega
  rcases c with e | e | e <;> subst e <;> omega
theorem cvT_ex {L : Int → Nat} {n x : Nat} (h : LOk L n) (hx : x < 2 ^ n) (h0 : x ≠ 0) : cvT L x = 1000000 ∨ ∃ s : Int, (0 ≤ s ∧ s < 3) ∧ cvT L x = 1 + cvT L (sdf x (L (3 * (lob 16 x : Int) + s))) := by
  have e := cvT_e h hx h0
  unfold cst at e
  have q : cvT L x = 1000000 ∨ cvT L x = 1 + cvT L (sdf x (L (3 * (lob 16 x : Int) + 0))) ∨ cvT L x = 1 + cvT L (sdf x (L (3 * (lob 16 x : Int) + 1))) ∨ cvT L x = 1 + cvT L (sdf x (L (3 * (lob 16 x : Int) + 2))) := by omega
  rcases q with q | q | q | q
  · exact Or.inl q
  · exact Or.inr ⟨0, by omega, q⟩
  · exact Or.inr ⟨1, by omega, q⟩
  · exact Or.inr ⟨2, by omega, q⟩
theorem sdf_sb {x y z : Nat} (hx : x < 65536) (hy : y < 65536) (h : sb x y) : sb (sdf x z) (sdf y z) := by
  intro i q
  rw [sdf_b hx, Bool.and_eq_true] at q
  rw [sdf_b hy, Bool.and_eq_true]
  exact ⟨h i q.1, q.2⟩
theorem sdf_sb2 {x y z : Nat} (hx : x < 65536) (h : sb z y) : sb (sdf x y) (sdf x z) := by
  intro i q
  rw [sdf_b hx, Bool.and_eq_true] at q
  rw [sdf_b hx, Bool.and_eq_true]
  refine ⟨q.1, ?_⟩
  cases w : z.testBit i
  · rfl
  · rw [h i w] at q; exact absurd q.2 (by decide)
theorem sdf_cm {x y z : Nat} (hx : x < 65536) : sdf (sdf x y) z = sdf (sdf x z) y := by
  apply Nat.eq_of_testBit_eq
  intro i
  rw [sdf_b (Nat.lt_of_le_of_lt (sdf_le x y) hx), sdf_b (Nat.lt_of_le_of_lt (sdf_le x z) hx), sdf_b hx, sdf_b hx]
  cases x.testBit i <;> cases y.testBit i <;> cases z.testBit i <;> rfl
theorem cvT_m {L : Int → Nat} {n : Nat} (h : LOk L n) : ∀ N : Nat, N ≤ 2 ^ n → (∀ x, x < N → ∀ b : Nat, b < n → ∀ s : Int, 0 ≤ s → s < 3 → cvT L x ≤ 1 + cvT L (sdf x (L (3 * (b : Int) + s)))) ∧ (∀ y, y < N → ∀ x, sb x y → cvT L x ≤ cvT L y)
  | 0, _ => ⟨fun x a => by omega, fun x a => by omega⟩
  | N + 1, hN => by
    obtain ⟨q, m⟩ := cvT_m h N (by omega)
    have hl : N < 2 ^ n := by omega
    have hl6 := h.lt hl
    have Q : ∀ b : Nat, b < n → ∀ s : Int, 0 ≤ s → s < 3 → cvT L N ≤ 1 + cvT L (sdf N (L (3 * (b : Int) + s))) := by
      intro b hb s s0 s3
      by_cases z0 : N = 0
      · rw [z0, cvT_0]; have := cvT_r (L := L) (sdf 0 (L (3 * (b : Int) + s))); omega
      · have lb := lob_b z0 hl6
        have ln := bit_lt hl lb.1
        by_cases g : (L (3 * (b : Int) + s)).testBit (lob 16 N) = true
        · have a1 := cvT_le h hl z0 s0 s3
          have a2 := m (sdf N (L (3 * (b : Int) + s))) (sdf_lt hl6 lb.1 g) _ (sdf_sb2 (x := N) hl6 (h.2.2 b _ hb ln s s0 s3 g))
          omega
        · have e := sdf_le N (L (3 * (b : Int) + s))
          rcases Nat.lt_or_eq_of_le e with lt | eq
          · have zl : sdf N (L (3 * (b : Int) + s)) < 2 ^ n := by omega
            have zb : (sdf N (L (3 * (b : Int) + s))).testBit (lob 16 N) = true := by
              rw [sdf_b hl6, lb.1]
              cases w : (L (3 * (b : Int) + s)).testBit (lob 16 N)
              · rfl
              · exact absurd w g
            have zz : sdf N (L (3 * (b : Int) + s)) ≠ 0 := fun u => by rw [u] at zb; simp at zb
            have zo : lob 16 (sdf N (L (3 * (b : Int) + s))) = lob 16 N := lob_u (h.lt zl) zb (fun i hi => by rw [sdf_b hl6, lb.2 i hi]; rfl)
            rcases cvT_ex h zl zz with u | ⟨t, ht, u⟩
            · have := cvT_r (L := L) N; omega
            · rw [zo] at u
              have a1 := cvT_le h hl z0 ht.1 ht.2
              have a2 := q (sdf N (L (3 * (lob 16 N : Int) + t))) (h.cut hl z0 ht.1 ht.2) b hb s s0 s3
              rw [sdf_cm hl6] at a2
              omega
          · rw [eq]; omega
    refine ⟨fun x hx b hb s s0 s3 => ?_, fun y hy x hs => ?_⟩
    · by_cases e : x = N
      · subst e; exact Q b hb s s0 s3
      · exact q x (by omega) b hb s s0 s3
    · by_cases e : y = N
      · subst e
        have le := sb_le hs
        by_cases z0 : y = 0
        · rw [show x = 0 by omega, z0]; exact Int.le_refl _
        · have lb := lob_b z0 hl6
          have ln := bit_lt hl lb.1
          rcases cvT_ex h hl z0 with u | ⟨t, ht, u⟩
          · have := cvT_r (L := L) x; omega
          · have a1 : cvT L x ≤ 1 + cvT L (sdf x (L (3 * (lob 16 y : Int) + t))) := by
              by_cases f : x = y
              · rw [f]; exact Q _ ln t ht.1 ht.2
              · exact q x (by omega) _ ln t ht.1 ht.2
            have a2 := m _ (h.cut hl z0 ht.1 ht.2) _ (sdf_sb (z := L (3 * (lob 16 y : Int) + t)) (show x < 65536 by omega) hl6 hs)
            omega
      · exact m y (by omega) x hs
theorem cvT_mono {L : Int → Nat} {n x y : Nat} (h : LOk L n) (hy : y < 2 ^ n) (hs : sb x y) : cvT L x ≤ cvT L y := (cvT_m h (2 ^ n) (Nat.le_refl _)).2 y hy x hs
theorem pop_sb {x y : Nat} : ∀ n, sb x y → pop n x ≤ pop n y
  | 0, h => Nat.le_refl _
  | n + 1, h => by
    have ih := pop_sb n h
    unfold pop
    cases q : x.testBit n
    · rw [if_neg (by decide)]; omega
    · rw [h n q]; omega
theorem pop_lt {x y c : Nat} (h : sb x y) (h1 : y.testBit c = true) (h2 : x.testBit c = false) : ∀ n, c < n → pop n x < pop n y
  | 0, q => by omega
  | n + 1, q => by
    unfold pop
    by_cases e : c = n
    · subst e
      have := pop_sb c h
      rw [h1, h2, if_pos rfl, if_neg (by decide)]; omega
    · have ih := pop_lt h h1 h2 n (by omega)
      cases g : x.testBit n
      · rw [if_neg (by decide)]; omega
      · rw [h n g]; omega
theorem wk_m1 {f g : Nat → Int} {n w s : Int} (hn : 0 ≤ n) : ∀ (F : Nat) (t p : Int) (b : Nat), (0 ≤ p ∧ p < 8) → (wk f g n w s F t p).testBit b = true → ∃ j : Int, 0 ≤ j ∧ (∀ i : Int, 0 ≤ i → i ≤ j → ckA f g n (t + w * i) ((p + w * s * i) % 8) ≠ -1) ∧ ckA f g n (t + w * j) ((p + w * s * j) % 8) = (b : Int)
  | 0, t, p, b, hp, h => by unfold wk at h; simp at h
  | F + 1, t, p, b, hp, h => by
    unfold wk at h
    split at h
    · simp at h
    · rename_i q
      rcases ckA_c (f := f) (g := g) (t := t) (p := p) hn with e | ⟨a, e1, e2⟩
      · exact absurd e q
      · have z0 : ckA f g n (t + w * 0) ((p + w * s * 0) % 8) = ckA f g n t p := by
          rw [Int.mul_zero, Int.mul_zero, Int.add_zero, Int.add_zero, show p % 8 = p by omega]
        rw [Nat.testBit_or, Bool.or_eq_true, Nat.testBit_two_pow] at h
        rcases h with h | h
        · have := of_decide_eq_true h
          refine ⟨0, by omega, fun i i0 i1 => ?_, ?_⟩
          · rw [show i = 0 by omega, z0]; exact q
          · rw [z0]; omega
        · obtain ⟨j, j0, hj, ej⟩ := wk_m1 hn F _ _ b (by omega) h
          refine ⟨j + 1, by omega, fun i i0 i1 => ?_, ?_⟩
          · by_cases z : i = 0
            · rw [z, z0]; exact q
            · have u := hj (i - 1) (by omega) (by omega)
              rw [Int.mul_sub, Int.mul_sub, Int.mul_one, Int.mul_one, show t + w + (w * i - w) = t + w * i by omega, show ((p + w * s) % 8 + (w * s * i - w * s)) % 8 = (p + w * s * i) % 8 by omega] at u
              exact u
          · rw [Int.mul_add, Int.mul_add, Int.mul_one, Int.mul_one, show t + (w * j + w) = t + w + w * j by omega, show (p + (w * s * j + w * s)) % 8 = ((p + w * s) % 8 + w * s * j) % 8 by omega]
            exact ej
theorem wk_m2 {f g : Nat → Int} {n w s : Int} (hn : 0 ≤ n) : ∀ (F : Nat) (t p j : Int), (0 ≤ p ∧ p < 8) → 0 ≤ j → j < F → (∀ i : Int, 0 ≤ i → i ≤ j → ckA f g n (t + w * i) ((p + w * s * i) % 8) ≠ -1) → (wk f g n w s F t p).testBit (ckA f g n (t + w * j) ((p + w * s * j) % 8)).toNat = true
  | 0, t, p, j, hp, j0, j1, h => by omega
  | F + 1, t, p, j, hp, j0, j1, h => by
    have z0 : ckA f g n (t + w * 0) ((p + w * s * 0) % 8) = ckA f g n t p := by
      rw [Int.mul_zero, Int.mul_zero, Int.add_zero, Int.add_zero, show p % 8 = p by omega]
    have q := h 0 (by omega) j0
    rw [z0] at q
    unfold wk
    rw [if_neg q, Nat.testBit_or, Bool.or_eq_true, Nat.testBit_two_pow]
    by_cases z : j = 0
    · left
      rw [z, z0]; exact decide_eq_true rfl
    · right
      have u := wk_m2 (w := w) (s := s) hn F (t + w) ((p + w * s) % 8) (j - 1) (by omega) (by omega) (by omega) (fun i i0 i1 => by
        have v := h (i + 1) (by omega) (by omega)
        rw [Int.mul_add, Int.mul_add, Int.mul_one, Int.mul_one, show t + (w * i + w) = t + w + w * i by omega, show (p + (w * s * i + w * s)) % 8 = ((p + w * s) % 8 + w * s * i) % 8 by omega] at v
        exact v)
      rw [Int.mul_sub, Int.mul_sub, Int.mul_one, Int.mul_one, show t + w + (w * j - w) = t + w * j by omega, show ((p + w * s) % 8 + (w * s * j - w * s)) % 8 = (p + w * s * j) % 8 by omega] at u
      exact u
def btw (j i : Int) : Prop := (0 ≤ i ∧ i ≤ j) ∨ (j ≤ i ∧ i ≤ 0)
theorem lnS_mem {f g : Nat → Int} {n s c : Int} {b : Nat} (h : ckU f g n) (hc : 0 ≤ c ∧ c < n) : (lnS f g n c s).testBit b = true ↔ ((b : Int) < n ∧ ∃ j : Int, f b = f c.toNat + j ∧ g b = (g c.toNat + s * j) % 8 ∧ ∀ i, btw j i → ckA f g n (f c.toNat + i) ((g c.toNat + s * i) % 8) ≠ -1) := by
  have r := h.2.1 c hc.1 hc.2
  unfold lnS
  rw [Nat.testBit_or, Bool.or_eq_true]
  constructor
  · rintro (q | q)
    · have bn := (wk_bit h.1.1 (Or.inr rfl) _ _ _ _ q).1
      obtain ⟨j, j0, hj, ej⟩ := wk_m1 h.1.1 101 _ _ b r.2 q
      rcases ckA_c (f := f) (g := g) (n := n) (t := f c.toNat + -1 * j) (p := (g c.toNat + -1 * s * j) % 8) h.1.1 with e | ⟨a, e1, e2⟩
      · exact absurd e (hj j j0 (Int.le_refl _))
      · rw [ej, Int.toNat_natCast] at e1 e2
        refine ⟨bn, -j, by omega, ?_, fun i bi => ?_⟩
        · rw [e2, Int.mul_neg, Int.neg_mul, Int.neg_mul, Int.one_mul]
        · have u := hj (-i) (by unfold btw at bi; omega) (by unfold btw at bi; omega)
          rw [Int.mul_neg, Int.mul_neg, Int.neg_mul, Int.neg_mul, Int.neg_mul, Int.one_mul, Int.one_mul, Int.neg_neg, Int.neg_neg] at u
          exact u
    · have bn := (wk_bit h.1.1 (Or.inl rfl) _ _ _ _ q).1
      obtain ⟨j, j0, hj, ej⟩ := wk_m1 h.1.1 101 _ _ b r.2 q
      rcases ckA_c (f := f) (g := g) (n := n) (t := f c.toNat + 1 * j) (p := (g c.toNat + 1 * s * j) % 8) h.1.1 with e | ⟨a, e1, e2⟩
      · exact absurd e (hj j j0 (Int.le_refl _))
      · rw [ej, Int.toNat_natCast] at e1 e2
        refine ⟨bn, j, by omega, ?_, fun i bi => ?_⟩
        · rw [e2, Int.one_mul]
        · have u := hj i (by unfold btw at bi; omega) (by unfold btw at bi; omega)
          rw [Int.one_mul, Int.one_mul] at u
          exact u
  · rintro ⟨bn, j, ef, eg, hj⟩
    have rb := h.2.1 (b : Int) (by omega) bn
    rw [Int.toNat_natCast] at rb
    have ec : ckA f g n (f c.toNat + j) ((g c.toNat + s * j) % 8) = (b : Int) := ckA_u h ⟨by omega, bn⟩ (by rw [Int.toNat_natCast]; exact ef) (by rw [Int.toNat_natCast]; exact eg)
    rcases Int.le_total j 0 with j0 | j0
    · left
      have u := wk_m2 (f := f) (g := g) (n := n) (w := -1) (s := s) h.1.1 101 (f c.toNat) (g c.toNat) (-j) r.2 (by omega) (by omega) (fun i i0 i1 => by
        have v := hj (-i) (Or.inr ⟨by omega, by omega⟩)
        rw [Int.mul_neg] at v
        rw [Int.neg_mul, Int.neg_mul, Int.neg_mul, Int.one_mul, Int.one_mul]
        exact v)
      rw [Int.mul_neg, Int.mul_neg, Int.neg_mul, Int.neg_mul, Int.neg_mul, Int.one_mul, Int.one_mul, Int.neg_neg, Int.neg_neg, ec, Int.toNat_natCast] at u
      exact u
    · right
      have u := wk_m2 (f := f) (g := g) (n := n) (w := 1) (s := s) h.1.1 101 (f c.toNat) (g c.toNat) j r.2 (by omega) (by omega) (fun i i0 i1 => by
        have v := hj i (Or.inl ⟨by omega, by omega⟩)
        rw [Int.one_mul, Int.one_mul]
        exact v)
      rw [Int.one_mul, Int.one_mul, ec, Int.toNat_natCast] at u
      exact u
def LQ (f g : Nat → Int) (n : Int) : Int → Nat := fun i => lnS f g n (i / 3) (i % 3 - 1)
theorem LQ_at {f g : Nat → Int} {n c s : Int} (h : 0 ≤ s ∧ s < 3) : LQ f g n (3 * c + s) = lnS f g n c (s - 1) := by
  unfold LQ
  rw [show (3 * c + s) / 3 = c by omega, show (3 * c + s) % 3 = s by omega]
theorem LQ_lt {f g : Nat → Int} {n i : Int} (h : ckU f g n) : LQ f g n i < 65536 :=
  Nat.or_lt_two_pow (n := 16) (wk_lt h.1 (Or.inr rfl) _ _ _) (wk_lt h.1 (Or.inl rfl) _ _ _)
theorem LQ_ok {f g : Nat → Int} {n : Int} (h : ckU f g n) : LOk (LQ f g n) n.toNat := by
  have n16 := h.1
  refine ⟨by omega, fun c hc s s0 s3 => ?_, fun b c hb hc s s0 s3 q => ?_⟩
  · have r := h.2.1 c (by omega) (by omega)
    rw [Int.toNat_natCast] at r
    rw [LQ_at ⟨s0, s3⟩, lnS_mem h (by omega)]
    refine ⟨by omega, 0, by rw [Int.toNat_natCast]; omega, by rw [Int.toNat_natCast, Int.mul_zero]; omega, fun i bi => ?_⟩
    rw [show i = 0 by unfold btw at bi; omega, Int.mul_zero, Int.add_zero, Int.add_zero, Int.toNat_natCast, show g c % 8 = g c by omega]
    have := ckA_at (c := (c : Int)) h (by omega)
    rw [Int.toNat_natCast] at this
    rw [this]; omega
  · intro i qi
    rw [LQ_at ⟨s0, s3⟩, lnS_mem h (by omega)] at q qi ⊢
    rw [Int.toNat_natCast] at *
    obtain ⟨-, j1, f1, g1, h1⟩ := q
    obtain ⟨ni, j2, f2, g2, h2⟩ := qi
    generalize s - 1 = t at *
    refine ⟨ni, j2 - j1, by omega, ?_, fun k bk => ?_⟩
    · rw [g2, g1, Int.mul_sub]; omega
    · have e : ckA f g n (f c + k) ((g c + t * k) % 8) = ckA f g n (f b + (j1 + k)) ((g b + t * (j1 + k)) % 8) := by
        rw [f1, g1, Int.mul_add, show f b + j1 + k = f b + (j1 + k) by omega, show ((g b + t * j1) % 8 + t * k) % 8 = (g b + (t * j1 + t * k)) % 8 by omega]
      rw [e]
      by_cases z : btw j1 (j1 + k)
      · exact h1 _ z
      · exact h2 _ (by unfold btw at *; omega)

