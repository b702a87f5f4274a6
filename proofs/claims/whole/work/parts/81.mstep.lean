/-! ===== reading in step: a step, the model ===== -/
set_option maxRecDepth 20000 in
theorem sX12_step_0 {G : ZG} {d : Nat} {iv : Nat → Nat → Int} {K : Option AV → AH → Prop} (h : (TxM iv) ∧ ((¬ (knd (wM iv)) = (-1) → (((iv 0 70) = 60 → (K (some (vi 0)) (mkM (mfail 3 iv)))) ∧ (¬ (iv 0 70) = 60 → (((iv 0 74) < 4 → ((-2147483648 ≤ ((iv 0 70) + 1) ∧ ((iv 0 70) + 1) ≤ 2147483647) ∧ (Z G mX12_step (d + 7) 0 0 56 [vr (some 0), vi (knd (wM iv)), vi (iv 0 70), vi 0] [] (mkM (iu iv 0 70 ((iv 0 70) + 1))) K))) ∧ (4 ≤ (iv 0 74) → (K (some (vi 0)) (mkM (mfail 3 iv)))))))) ∧ ((knd (wM iv)) = (-1) → (K (some (vi 0)) (mkM (mfail 2 iv)))))) : Z G mX12_step (d + 7) 0 0 0 [vr (some 0), vu, vu, vu] [] (mkM iv) K := (Z_aload_n (dX12_step 0) rfl (Z_cVM (As := []) (S := []) (dX12_step 1) lk_X12_428 sM0 (by decide) rfl rfl (Nat.le_of_ble_eq_true rfl) (Nat.le_of_ble_eq_true rfl) (M_kindHere  h.1 ((Z_istore_n (dX12_step 2) (Nat.le_of_ble_eq_true rfl) rfl (Z_iload_n (dX12_step 3) rfl (Z_iconst (dX12_step 4) ⟨by decide, by decide⟩ (Z_icmp_ne (dX12_step 5) rfl (fun c1 => (Z_aload_n (dX12_step 10) rfl (Z_gIM (x := (iv 0 70)) (dX12_step 11) lk_X12_431 sM0 (Or.inl rfl) rfl (Z_bipush (dX12_step 12) ⟨by decide, by decide⟩ (Z_icmp_eq (dX12_step 13) rfl (fun c3 => (Z_aload_n (dX12_step 18) rfl (Z_iconst (dX12_step 19) ⟨by decide, by decide⟩ (Z_cVM (As := [vi 3]) (S := []) (dX12_step 20) lk_X12_401 sM0 (by decide) rfl rfl (Nat.le_of_ble_eq_true rfl) (Nat.le_of_ble_eq_true rfl) (M_fail  ((Z_zreturn (dX12_step 21) rfl (Or.inl rfl) ((h.2.1 c1).1 c3)))))))) (fun c4 => (Z_aload_n (dX12_step 14) rfl (Z_gIM (x := (iv 0 74)) (dX12_step 15) lk_X12_434 sM0 (Or.inl rfl) rfl (Z_iconst (dX12_step 16) ⟨by decide, by decide⟩ (Z_icmp_lt (dX12_step 17) rfl (fun c5 => (Z_aload_n (dX12_step 22) rfl (Z_gIM (x := (iv 0 70)) (dX12_step 23) lk_X12_431 sM0 (Or.inl rfl) rfl (Z_istore_n (dX12_step 24) (Nat.le_of_ble_eq_true rfl) rfl (Z_aload_n (dX12_step 25) rfl (Z_dup (dX12_step 26) rfl (Z_gIM (x := (iv 0 70)) (dX12_step 27) lk_X12_431 sM0 (Or.inl rfl) rfl (Z_iconst (dX12_step 28) ⟨by decide, by decide⟩ (Z_iadd (dX12_step 29) (((h.2.1 c1).2 c4).1 c5).1 (Z_putIM (dX12_step 30) lk_X12_431 sM0 rfl (Or.inl rfl) (Z_iconst (dX12_step 31) ⟨by decide, by decide⟩ (Z_istore_n (dX12_step 32) (Nat.le_of_ble_eq_true rfl) rfl (((h.2.1 c1).2 c4).1 c5).2)))))))))))) (fun c6 => (Z_aload_n (dX12_step 18) rfl (Z_iconst (dX12_step 19) ⟨by decide, by decide⟩ (Z_cVM (As := [vi 3]) (S := []) (dX12_step 20) lk_X12_401 sM0 (by decide) rfl rfl (Nat.le_of_ble_eq_true rfl) (Nat.le_of_ble_eq_true rfl) (M_fail  ((Z_zreturn (dX12_step 21) rfl (Or.inl rfl) (((h.2.1 c1).2 c4).2 c6)))))))))))))))))) (fun c2 => (Z_aload_n (dX12_step 6) rfl (Z_iconst (dX12_step 7) ⟨by decide, by decide⟩ (Z_cVM (As := [vi 2]) (S := []) (dX12_step 8) lk_X12_401 sM0 (by decide) rfl rfl (Nat.le_of_ble_eq_true rfl) (Nat.le_of_ble_eq_true rfl) (M_fail  ((Z_zreturn (dX12_step 9) rfl (Or.inl rfl) (h.2.2 c2))))))))))))))))
set_option maxRecDepth 20000 in
theorem sX12_step_56 {G : ZG} {d : Nat} {iv : Nat → Nat → Int} {K : Option AV → AH → Prop} {x1 x2 x3 : Int} (h : (12 ≤ x3 → (Z G mX12_step (d + 7) 0 0 75 [vr (some 0), vi x1, vi x2, vu] [] (mkM iv) K)) ∧ (x3 < 12 → ((0 ≤ x2 ∧ x2 < 60) ∧ (((0 : Int) ≤ x3 ∧ (x3 : Int) < 12) ∧ ((-2147483648 ≤ (x3 + 1) ∧ (x3 + 1) ≤ 2147483647) ∧ (Z G mX12_step (d + 7) 0 0 56 [vr (some 0), vi x1, vi x2, vi (x3 + 1)] [] (mkM (iu iv 42 (12 * x2 + x3).toNat (-1))) K)))))) : Z G mX12_step (d + 7) 0 0 56 [vr (some 0), vi x1, vi x2, vi x3] [] (mkM iv) K := (Z_iload_n (dX12_step 33) rfl (Z_bipush (dX12_step 34) ⟨by decide, by decide⟩ (Z_icmp_ge (dX12_step 35) rfl (fun c1 => (Z.fg (L' := [vr (some 0), vi x1, vi x2, vu]) (L := [vr (some 0), vi x1, vi x2, vi x3]) ⟨Or.inl rfl, ⟨Or.inl rfl, ⟨Or.inl rfl, ⟨Or.inr rfl, trivial⟩⟩⟩⟩ (h.1 c1))) (fun c2 => (Z_aload_n (dX12_step 36) rfl (Z_iload_n (dX12_step 37) rfl (Z_iload_n (dX12_step 38) rfl (Z_iconst (dX12_step 39) ⟨by decide, by decide⟩ (Z_cVM (As := [vi x2, vi x3, vi (-1)]) (S := []) (dX12_step 40) lk_X12_437 sM0 (by decide) rfl rfl (Nat.le_of_ble_eq_true rfl) (Nat.le_of_ble_eq_true rfl) (M_set  (h.2 c2).1 (h.2 c2).2.1 ((Z_iinc (dX12_step 41) rfl (Nat.le_of_ble_eq_true rfl) (h.2 c2).2.2.1 rfl (Z_goto (dX12_step 42) rfl (h.2 c2).2.2.2)))))))))))))
set_option maxRecDepth 20000 in
theorem sX12_step_75 {G : ZG} {d : Nat} {iv : Nat → Nat → Int} {K : Option AV → AH → Prop} {x1 x2 : Int} (h : (0 ≤ x2 ∧ x2 < 60) ∧ (((0 : Int) ≤ 0 ∧ (0 : Int) < 12) ∧ ((0 ≤ x2 ∧ x2 < 60) ∧ (((0 : Int) ≤ 6 ∧ (6 : Int) < 12) ∧ ((0 ≤ (iu (iu iv 42 (12 * x2 + 0).toNat x1) 42 (12 * x2 + 6).toNat ((iu iv 42 (12 * x2 + 0).toNat x1) 0 46)) 0 47 ∧ (iu (iu iv 42 (12 * x2 + 0).toNat x1) 42 (12 * x2 + 6).toNat ((iu iv 42 (12 * x2 + 0).toNat x1) 0 46)) 0 47 ≤ (iu (iu iv 42 (12 * x2 + 0).toNat x1) 42 (12 * x2 + 6).toNat ((iu iv 42 (12 * x2 + 0).toNat x1) 0 46)) 0 44) ∧ (((iu (iu iv 42 (12 * x2 + 0).toNat x1) 42 (12 * x2 + 6).toNat ((iu iv 42 (12 * x2 + 0).toNat x1) 0 46)) 0 44 ≤ 600) ∧ ((bOK ((iu (iu iv 42 (12 * x2 + 0).toNat x1) 42 (12 * x2 + 6).toNat ((iu iv 42 (12 * x2 + 0).toNat x1) 0 46)) 29)) ∧ (Z G mX12_step (d + 7) 0 0 97 [vr (some 0), vi x1, vi x2, vu] [] (mkM (nx (iu (iu iv 42 (12 * x2 + 0).toNat x1) 42 (12 * x2 + 6).toNat ((iu iv 42 (12 * x2 + 0).toNat x1) 0 46)))) K)))))))) : Z G mX12_step (d + 7) 0 0 75 [vr (some 0), vi x1, vi x2, vu] [] (mkM iv) K := (Z_aload_n (dX12_step 43) rfl (Z_iload_n (dX12_step 44) rfl (Z_iconst (dX12_step 45) ⟨by decide, by decide⟩ (Z_iload_n (dX12_step 46) rfl (Z_cVM (As := [vi x2, vi 0, vi x1]) (S := []) (dX12_step 47) lk_X12_437 sM0 (by decide) rfl rfl (Nat.le_of_ble_eq_true rfl) (Nat.le_of_ble_eq_true rfl) (M_set  h.1 h.2.1 ((Z_aload_n (dX12_step 48) rfl (Z_iload_n (dX12_step 49) rfl (Z_bipush (dX12_step 50) ⟨by decide, by decide⟩ (Z_aload_n (dX12_step 51) rfl (Z_gIM (x := ((iu iv 42 (12 * x2 + 0).toNat x1) 0 46)) (dX12_step 52) lk_X12_370 sM0 (Or.inl rfl) rfl (Z_cVM (As := [vi x2, vi 6, vi ((iu iv 42 (12 * x2 + 0).toNat x1) 0 46)]) (S := []) (dX12_step 53) lk_X12_437 sM0 (by decide) rfl rfl (Nat.le_of_ble_eq_true rfl) (Nat.le_of_ble_eq_true rfl) (M_set  h.2.2.1 h.2.2.2.1 ((Z_aload_n (dX12_step 54) rfl (Z_cVM (As := []) (S := []) (dX12_step 55) lk_X12_404 sM0 (by decide) rfl rfl (Nat.le_of_ble_eq_true rfl) (Nat.le_of_ble_eq_true rfl) (M_next  h.2.2.2.2.1 h.2.2.2.2.2.1 h.2.2.2.2.2.2.1 (h.2.2.2.2.2.2.2)))))))))))))))))))
set_option maxRecDepth 20000 in
theorem sX12_step_97 {G : ZG} {d : Nat} {iv : Nat → Nat → Int} {K : Option AV → AH → Prop} {x1 x2 : Int} (h : (¬ x1 = 4 → ((¬ x1 = 6 → ((¬ x1 = 0 → ((¬ x1 = 1 → ((TxM iv) ∧ ((∀ (r9 : Int), ∀ (v10 : Nat → Nat → Int), (numR 0 9 iv r9 v10) → ((0 ≤ x2 ∧ x2 < 60) ∧ (((0 : Int) ≤ 1 ∧ (1 : Int) < 12) ∧ (Z G mX12_step (d + 7) 0 0 171 [vr (some 0), vi x1, vi x2, vu] [] (mkM (iu v10 42 (12 * x2 + 1).toNat r9)) K))))))) ∧ (x1 = 1 → ((TxM iv) ∧ ((∀ (r12 : Int), ∀ (v13 : Nat → Nat → Int), (numR 1 100 iv r12 v13) → ((0 ≤ x2 ∧ x2 < 60) ∧ (((0 : Int) ≤ 1 ∧ (1 : Int) < 12) ∧ (Z G mX12_step (d + 7) 0 0 171 [vr (some 0), vi x1, vi x2, vu] [] (mkM (iu v13 42 (12 * x2 + 1).toNat r12)) K))))))))) ∧ (x1 = 0 → ((TxM iv) ∧ ((∀ (r15 : Int), ∀ (v16 : Nat → Nat → Int), (numR 0 1 iv r15 v16) → ((0 ≤ x2 ∧ x2 < 60) ∧ (((0 : Int) ≤ 1 ∧ (1 : Int) < 12) ∧ (Z G mX12_step (d + 7) 0 0 171 [vr (some 0), vi x1, vi x2, vu] [] (mkM (iu v16 42 (12 * x2 + 1).toNat r15)) K))))))))) ∧ (x1 = 6 → (Z G mX12_tests (d + 6) 0 0 0 [vr (some 0), vi x2, vu, vu] [] (mkM iv) (fun r A1 => Z G mX12_step (d + 7) 0 0 127 [vr (some 0), vi x1, vi x2, vu] (r.toList ++ []) A1 K))))) ∧ (x1 = 4 → ((TxM iv) ∧ ((iv 0 45 = 2 → ∀ k : Int, iv 0 46 ≤ k → k < iv 0 47 → isLt (iv 29 k.toNat) = true) ∧ ((0 ≤ iv 0 71 ∧ iv 0 71 ≤ 8) ∧ ((∀ (r18 : Int), ∀ (v19 : Nat → Nat → Int), (nameR iv r18 v19) → ((0 ≤ x2 ∧ x2 < 60) ∧ (((0 : Int) ≤ 11 ∧ (11 : Int) < 12) ∧ (Z G mX12_step (d + 7) 0 0 171 [vr (some 0), vi x1, vi x2, vu] [] (mkM (iu v19 42 (12 * x2 + 11).toNat r18)) K)))))))))) : Z G mX12_step (d + 7) 0 0 97 [vr (some 0), vi x1, vi x2, vu] [] (mkM iv) K := (Z_iload_n (dX12_step 56) rfl (Z_iconst (dX12_step 57) ⟨by decide, by decide⟩ (Z_icmp_ne (dX12_step 58) rfl (fun c1 => (Z_iload_n (dX12_step 66) rfl (Z_bipush (dX12_step 67) ⟨by decide, by decide⟩ (Z_icmp_ne (dX12_step 68) rfl (fun c3 => (Z_aload_n (dX12_step 73) rfl (Z_iload_n (dX12_step 74) rfl (Z_iconst (dX12_step 75) ⟨by decide, by decide⟩ (Z_iload_n (dX12_step 76) rfl (Z_if_ne (dX12_step 77) rfl (fun c5 => (Z_iload_n (dX12_step 83) rfl (Z_iconst (dX12_step 84) ⟨by decide, by decide⟩ (Z_icmp_ne (dX12_step 85) rfl (fun c7 => (Z_aload_n (dX12_step 91) rfl (Z_iconst (dX12_step 92) ⟨by decide, by decide⟩ (Z_bipush (dX12_step 93) ⟨by decide, by decide⟩ (Z_cVM (As := [vi 0, vi 9]) (S := [vi 1, vi x2, vr (some 0)]) (dX12_step 94) lk_X12_446 sM0 (by decide) rfl rfl (Nat.le_of_ble_eq_true rfl) (Nat.le_of_ble_eq_true rfl) (M_wantNumber  ((((h.1 c1).1 c3).1 c5).1 c7).1 (fun r9 v10 c11 => (Z_cVM (As := [vi x2, vi 1, vi r9]) (S := []) (dX12_step 95) lk_X12_437 sM0 (by decide) rfl rfl (Nat.le_of_ble_eq_true rfl) (Nat.le_of_ble_eq_true rfl) (M_set  (((((h.1 c1).1 c3).1 c5).1 c7).2 r9 v10 c11).1 (((((h.1 c1).1 c3).1 c5).1 c7).2 r9 v10 c11).2.1 ((((((h.1 c1).1 c3).1 c5).1 c7).2 r9 v10 c11).2.2)))))))))) (fun c8 => (Z_aload_n (dX12_step 86) rfl (Z_iconst (dX12_step 87) ⟨by decide, by decide⟩ (Z_bipush (dX12_step 88) ⟨by decide, by decide⟩ (Z_cVM (As := [vi 1, vi 100]) (S := [vi 1, vi x2, vr (some 0)]) (dX12_step 89) lk_X12_446 sM0 (by decide) rfl rfl (Nat.le_of_ble_eq_true rfl) (Nat.le_of_ble_eq_true rfl) (M_wantNumber  ((((h.1 c1).1 c3).1 c5).2 c8).1 (fun r12 v13 c14 => (Z_goto (dX12_step 90) rfl (Z_cVM (As := [vi x2, vi 1, vi r12]) (S := []) (dX12_step 95) lk_X12_437 sM0 (by decide) rfl rfl (Nat.le_of_ble_eq_true rfl) (Nat.le_of_ble_eq_true rfl) (M_set  (((((h.1 c1).1 c3).1 c5).2 c8).2 r12 v13 c14).1 (((((h.1 c1).1 c3).1 c5).2 c8).2 r12 v13 c14).2.1 ((((((h.1 c1).1 c3).1 c5).2 c8).2 r12 v13 c14).2.2))))))))))))))) (fun c6 => (Z_aload_n (dX12_step 78) rfl (Z_iconst (dX12_step 79) ⟨by decide, by decide⟩ (Z_iconst (dX12_step 80) ⟨by decide, by decide⟩ (Z_cVM (As := [vi 0, vi 1]) (S := [vi 1, vi x2, vr (some 0)]) (dX12_step 81) lk_X12_446 sM0 (by decide) rfl rfl (Nat.le_of_ble_eq_true rfl) (Nat.le_of_ble_eq_true rfl) (M_wantNumber  (((h.1 c1).1 c3).2 c6).1 (fun r15 v16 c17 => (Z_goto (dX12_step 82) rfl (Z_cVM (As := [vi x2, vi 1, vi r15]) (S := []) (dX12_step 95) lk_X12_437 sM0 (by decide) rfl rfl (Nat.le_of_ble_eq_true rfl) (Nat.le_of_ble_eq_true rfl) (M_set  ((((h.1 c1).1 c3).2 c6).2 r15 v16 c17).1 ((((h.1 c1).1 c3).2 c6).2 r15 v16 c17).2.1 (((((h.1 c1).1 c3).2 c6).2 r15 v16 c17).2.2))))))))))))))))) (fun c4 => (Z_aload_n (dX12_step 69) rfl (Z_iload_n (dX12_step 70) rfl (Z_cVM (As := [vi x2]) (S := []) (dX12_step 71) lk_X12_443 sM0 (by decide) rfl rfl (Nat.le_of_ble_eq_true rfl) (Nat.le_of_ble_eq_true rfl) ((h.1 c1).2 c4))))))))) (fun c2 => (Z_aload_n (dX12_step 59) rfl (Z_iload_n (dX12_step 60) rfl (Z_bipush (dX12_step 61) ⟨by decide, by decide⟩ (Z_aload_n (dX12_step 62) rfl (Z_cVM (As := []) (S := [vi 11, vi x2, vr (some 0)]) (dX12_step 63) lk_X12_440 sM0 (by decide) rfl rfl (Nat.le_of_ble_eq_true rfl) (Nat.le_of_ble_eq_true rfl) (M_wantName  (h.2 c2).1 (h.2 c2).2.1 (h.2 c2).2.2.1 (fun r18 v19 c20 => (Z_cVM (As := [vi x2, vi 11, vi r18]) (S := []) (dX12_step 64) lk_X12_437 sM0 (by decide) rfl rfl (Nat.le_of_ble_eq_true rfl) (Nat.le_of_ble_eq_true rfl) (M_set  ((h.2 c2).2.2.2 r18 v19 c20).1 ((h.2 c2).2.2.2 r18 v19 c20).2.1 ((Z_goto (dX12_step 65) rfl ((h.2 c2).2.2.2 r18 v19 c20).2.2)))))))))))))))
set_option maxRecDepth 20000 in
theorem sX12_step_127 {G : ZG} {d : Nat} {iv : Nat → Nat → Int} {K : Option AV → AH → Prop} {x1 x2 : Int} (h : Z G mX12_step (d + 7) 0 0 171 [vr (some 0), vi x1, vi x2, vu] [] (mkM iv) K) : Z G mX12_step (d + 7) 0 0 127 [vr (some 0), vi x1, vi x2, vu] [] (mkM iv) K := (Z_goto (dX12_step 72) rfl h)
set_option maxRecDepth 20000 in
theorem sX12_step_171 {G : ZG} {d : Nat} {iv : Nat → Nat → Int} {K : Option AV → AH → Prop} {x1 x2 : Int} (h : ((iv 0 51) ≤ 0 → ((¬ x1 = 2 → (Z G mX12_step (d + 7) 0 0 190 [vr (some 0), vi x1, vi x2, vu] [] (mkM iv) K)) ∧ (x1 = 2 → (Z G mX12_options (d + 6) 0 0 0 [vr (some 0), vi x2, vu, vu] [] (mkM iv) (fun r A1 => Z G mX12_step (d + 7) 0 0 190 [vr (some 0), vi x1, vi x2, vu] (r.toList ++ []) A1 K))))) ∧ (0 < (iv 0 51) → (K (some (vi 0)) (mkM iv)))) : Z G mX12_step (d + 7) 0 0 171 [vr (some 0), vi x1, vi x2, vu] [] (mkM iv) K := (Z_aload_n (dX12_step 96) rfl (Z_gIM (x := (iv 0 51)) (dX12_step 97) lk_X12_395 sM0 (Or.inl rfl) rfl (Z_if_le (dX12_step 98) rfl (fun c1 => (Z_iload_n (dX12_step 101) rfl (Z_iconst (dX12_step 102) ⟨by decide, by decide⟩ (Z_icmp_ne (dX12_step 103) rfl (fun c3 => ((h.1 c1).1 c3)) (fun c4 => (Z_aload_n (dX12_step 104) rfl (Z_iload_n (dX12_step 105) rfl (Z_cVM (As := [vi x2]) (S := []) (dX12_step 106) lk_X12_449 sM0 (by decide) rfl rfl (Nat.le_of_ble_eq_true rfl) (Nat.le_of_ble_eq_true rfl) ((h.1 c1).2 c4))))))))) (fun c2 => (Z_iconst (dX12_step 99) ⟨by decide, by decide⟩ (Z_zreturn (dX12_step 100) rfl (Or.inl rfl) (h.2 c2)))))))
set_option maxRecDepth 20000 in
theorem sX12_step_190 {G : ZG} {d : Nat} {iv : Nat → Nat → Int} {K : Option AV → AH → Prop} {x1 x2 : Int} (h : ((iv 0 51) ≤ 0 → ((x1 = 5 → ((TxM iv) ∧ ((∀ (b5 : Int), ∀ (v6 : Nat → Nat → Int), (wantR 123 iv b5 v6) → ((¬ b5 = 0 → ((0 ≤ (v6 0 74) ∧ (v6 0 74) < (8 : Nat)) ∧ ((0 ≤ (v6 0 74) ∧ (v6 0 74) < (8 : Nat)) ∧ ((-2147483648 ≤ ((v6 0 74) + 1) ∧ ((v6 0 74) + 1) ≤ 2147483647) ∧ (K (some (vi 1)) (mkM (iu (iu (iu v6 45 ((v6 0 74).toNat) x2) 46 ((v6 0 74).toNat) 0) 0 74 ((v6 0 74) + 1)))))))) ∧ (b5 = 0 → (K (some (vi 0)) (mkM v6)))))))) ∧ (¬ x1 = 5 → ((x1 = 6 → ((TxM iv) ∧ ((∀ (b12 : Int), ∀ (v13 : Nat → Nat → Int), (wantR 123 iv b12 v13) → ((¬ b12 = 0 → ((0 ≤ (v13 0 74) ∧ (v13 0 74) < (8 : Nat)) ∧ ((0 ≤ (v13 0 74) ∧ (v13 0 74) < (8 : Nat)) ∧ ((-2147483648 ≤ ((v13 0 74) + 1) ∧ ((v13 0 74) + 1) ≤ 2147483647) ∧ (K (some (vi 1)) (mkM (iu (iu (iu v13 45 ((v13 0 74).toNat) x2) 46 ((v13 0 74).toNat) 0) 0 74 ((v13 0 74) + 1)))))))) ∧ (b12 = 0 → (K (some (vi 0)) (mkM v13)))))))) ∧ (¬ x1 = 6 → ((TxM iv) ∧ ((∀ (b17 : Int), ∀ (v18 : Nat → Nat → Int), (wantR 59 iv b17 v18) → ((b17 = 0 ∨ b17 = 1) ∧ K (some (vi b17)) (mkM v18)))))))))) ∧ (0 < (iv 0 51) → (K (some (vi 0)) (mkM iv)))) : Z G mX12_step (d + 7) 0 0 190 [vr (some 0), vi x1, vi x2, vu] [] (mkM iv) K := (Z_aload_n (dX12_step 107) rfl (Z_gIM (x := (iv 0 51)) (dX12_step 108) lk_X12_395 sM0 (Or.inl rfl) rfl (Z_if_le (dX12_step 109) rfl (fun c1 => (Z_iload_n (dX12_step 112) rfl (Z_iconst (dX12_step 113) ⟨by decide, by decide⟩ (Z_icmp_eq (dX12_step 114) rfl (fun c3 => (Z_aload_n (dX12_step 122) rfl (Z_bipush (dX12_step 123) ⟨by decide, by decide⟩ (Z_cVM (As := [vi 123]) (S := []) (dX12_step 124) lk_X12_452 sM0 (by decide) rfl rfl (Nat.le_of_ble_eq_true rfl) (Nat.le_of_ble_eq_true rfl) (M_want  ((h.1 c1).1 c3).1 (fun b5 v6 c7 => (Z_if_ne (dX12_step 125) rfl (fun c8 => (Z_aload_n (dX12_step 128) rfl (Z_gRM (r := (some 45)) (dX12_step 129) lk_X12_162 sM0 rfl rfl (Z_aload_n (dX12_step 130) rfl (Z_gIM (x := (v6 0 74)) (dX12_step 131) lk_X12_434 sM0 (Or.inl rfl) rfl (Z_iload_n (dX12_step 132) rfl (Z_iastM (dX12_step 133) sM45 ((((h.1 c1).1 c3).2 b5 v6 c7).1 c8).1 (Z_aload_n (dX12_step 134) rfl (Z_gRM (r := (some 46)) (dX12_step 135) lk_X12_165 sM0 rfl rfl (Z_aload_n (dX12_step 136) rfl (Z_gIM (x := (v6 0 74)) (dX12_step 137) lk_X12_434 sM0 (Or.inl rfl) ((iu_o (by decide)).trans rfl) (Z_iconst (dX12_step 138) ⟨by decide, by decide⟩ (Z_zastM (dX12_step 139) sM46 ((((h.1 c1).1 c3).2 b5 v6 c7).1 c8).2.1 (Or.inl rfl) (Z_aload_n (dX12_step 140) rfl (Z_dup (dX12_step 141) rfl (Z_gIM (x := (v6 0 74)) (dX12_step 142) lk_X12_434 sM0 (Or.inl rfl) ((iu_o (by decide)).trans ((iu_o (by decide)).trans rfl)) (Z_iconst (dX12_step 143) ⟨by decide, by decide⟩ (Z_iadd (dX12_step 144) ((((h.1 c1).1 c3).2 b5 v6 c7).1 c8).2.2.1 (Z_putIM (dX12_step 145) lk_X12_434 sM0 rfl (Or.inl rfl) (Z_iconst (dX12_step 146) ⟨by decide, by decide⟩ (Z_zreturn (dX12_step 147) rfl (Or.inr rfl) ((((h.1 c1).1 c3).2 b5 v6 c7).1 c8).2.2.2))))))))))))))))))))) (fun c9 => (Z_iconst (dX12_step 126) ⟨by decide, by decide⟩ (Z_zreturn (dX12_step 127) rfl (Or.inl rfl) ((((h.1 c1).1 c3).2 b5 v6 c7).2 c9))))))))))) (fun c4 => (Z_iload_n (dX12_step 115) rfl (Z_bipush (dX12_step 116) ⟨by decide, by decide⟩ (Z_icmp_eq (dX12_step 117) rfl (fun c10 => (Z_aload_n (dX12_step 122) rfl (Z_bipush (dX12_step 123) ⟨by decide, by decide⟩ (Z_cVM (As := [vi 123]) (S := []) (dX12_step 124) lk_X12_452 sM0 (by decide) rfl rfl (Nat.le_of_ble_eq_true rfl) (Nat.le_of_ble_eq_true rfl) (M_want  (((h.1 c1).2 c4).1 c10).1 (fun b12 v13 c14 => (Z_if_ne (dX12_step 125) rfl (fun c15 => (Z_aload_n (dX12_step 128) rfl (Z_gRM (r := (some 45)) (dX12_step 129) lk_X12_162 sM0 rfl rfl (Z_aload_n (dX12_step 130) rfl (Z_gIM (x := (v13 0 74)) (dX12_step 131) lk_X12_434 sM0 (Or.inl rfl) rfl (Z_iload_n (dX12_step 132) rfl (Z_iastM (dX12_step 133) sM45 (((((h.1 c1).2 c4).1 c10).2 b12 v13 c14).1 c15).1 (Z_aload_n (dX12_step 134) rfl (Z_gRM (r := (some 46)) (dX12_step 135) lk_X12_165 sM0 rfl rfl (Z_aload_n (dX12_step 136) rfl (Z_gIM (x := (v13 0 74)) (dX12_step 137) lk_X12_434 sM0 (Or.inl rfl) ((iu_o (by decide)).trans rfl) (Z_iconst (dX12_step 138) ⟨by decide, by decide⟩ (Z_zastM (dX12_step 139) sM46 (((((h.1 c1).2 c4).1 c10).2 b12 v13 c14).1 c15).2.1 (Or.inl rfl) (Z_aload_n (dX12_step 140) rfl (Z_dup (dX12_step 141) rfl (Z_gIM (x := (v13 0 74)) (dX12_step 142) lk_X12_434 sM0 (Or.inl rfl) ((iu_o (by decide)).trans ((iu_o (by decide)).trans rfl)) (Z_iconst (dX12_step 143) ⟨by decide, by decide⟩ (Z_iadd (dX12_step 144) (((((h.1 c1).2 c4).1 c10).2 b12 v13 c14).1 c15).2.2.1 (Z_putIM (dX12_step 145) lk_X12_434 sM0 rfl (Or.inl rfl) (Z_iconst (dX12_step 146) ⟨by decide, by decide⟩ (Z_zreturn (dX12_step 147) rfl (Or.inr rfl) (((((h.1 c1).2 c4).1 c10).2 b12 v13 c14).1 c15).2.2.2))))))))))))))))))))) (fun c16 => (Z_iconst (dX12_step 126) ⟨by decide, by decide⟩ (Z_zreturn (dX12_step 127) rfl (Or.inl rfl) (((((h.1 c1).2 c4).1 c10).2 b12 v13 c14).2 c16))))))))))) (fun c11 => (Z_aload_n (dX12_step 118) rfl (Z_bipush (dX12_step 119) ⟨by decide, by decide⟩ (Z_cVM (As := [vi 59]) (S := []) (dX12_step 120) lk_X12_452 sM0 (by decide) rfl rfl (Nat.le_of_ble_eq_true rfl) (Nat.le_of_ble_eq_true rfl) (M_want  (((h.1 c1).2 c4).2 c11).1 (fun b17 v18 c19 => (Z_zreturn (dX12_step 121) rfl ((((h.1 c1).2 c4).2 c11).2 b17 v18 c19).1 ((((h.1 c1).2 c4).2 c11).2 b17 v18 c19).2))))))))))))))) (fun c2 => (Z_iconst (dX12_step 110) ⟨by decide, by decide⟩ (Z_zreturn (dX12_step 111) rfl (Or.inl rfl) (h.2 c2)))))))
/-- what reading changes in the model while a step is read -/
def kF (m v : Nat → Nat → Int) : Prop := ∀ i j, i ≠ 42 → i ≠ 44 → ¬ (i = 0 ∧ (j = 45 ∨ j = 46 ∨ j = 47 ∨ j = 48 ∨ j = 50 ∨ j = 51 ∨ j = 71)) → v i j = m i j
theorem kF_r {m : Nat → Nat → Int} : kF m m := fun _ _ _ _ _ => rfl
theorem kF_t {m v w : Nat → Nat → Int} (h : kF m v) (h' : kF v w) : kF m w := fun i j a b c => by rw [h' i j a b c, h i j a b c]
theorem kF_nx {m : Nat → Nat → Int} : kF m (nx m) := fun i j _ _ c => by
  unfold nx
  rw [iu_ap, if_neg (by omega), iu_ap, if_neg (by omega), iu_ap, if_neg (by omega), iu_ap, if_neg (by omega)]
theorem kF_fail {k : Int} {m : Nat → Nat → Int} : kF m (mfail k m) := fun i j _ _ c => by
  unfold mfail mfl
  split
  · rfl
  · rw [iu_ap, if_neg (by omega), iu_ap, if_neg (by omega)]
theorem kF_u {m v : Nat → Nat → Int} {j : Nat} {x : Int} (h : kF m v) : kF m (iu v 42 j x) := fun i q a b c => by rw [iu_o a]; exact h i q a b c
theorem kF_num {l g : Int} {m : Nat → Nat → Int} : kF m (numV l g m).2 := by
  unfold numV
  split
  · exact kF_nx
  · exact kF_fail
theorem kF_name {m : Nat → Nat → Int} : kF m (nameV m).2 := by
  unfold nameV
  split
  · split
    · exact kF_fail
    · split
      · refine kF_t ?_ kF_nx
        intro i j a b c
        rw [iu_ap, if_neg (by omega), iu_o b]
      · exact kF_nx
  · exact kF_fail
theorem MT_name {m : Nat → Nat → Int} (h : MT m) : MT (nameV m).2 := by
  unfold nameV
  split
  · split
    · exact MT_fail h
    · split
      · rename_i a b
        refine MT_nx ?_
        have h3 := h.2.2
        refine ⟨?_, ?_, ?_⟩
        · have := h.1
          unfold TxM at *
          rw [iu_row (i := 29) (by decide), iu_row (i := 29) (by decide), iu_k (i := 0) (j := 44) (by decide), iu_k (i := 0) (j := 46) (by decide), iu_k (i := 0) (j := 47) (by decide), iu_o (i := 0) (by decide), iu_o (i := 0) (by decide), iu_o (i := 0) (by decide)]
          exact this
        · have := h.2.1
          rw [iu_row (i := 29) (by decide), iu_row (i := 29) (by decide), iu_k (i := 0) (j := 45) (by decide), iu_k (i := 0) (j := 46) (by decide), iu_k (i := 0) (j := 47) (by decide), iu_o (i := 0) (by decide), iu_o (i := 0) (by decide), iu_o (i := 0) (by decide)]
          exact this
        · rw [iu_eq]; omega
      · exact MT_nx h
  · exact MT_fail h
theorem test_f {i : Int} {m : Nat → Nat → Int} (h : MT m) : kF m (testV i m) ∧ MT (testV i m) := by
  unfold testV
  split
  · exact ⟨kF_u (kF_t (kF_t (kF_u kF_r) kF_nx) kF_name), MT_u (MT_name (MT_nx (MT_u h)))⟩
  · split
    · generalize (if wM m = 13 then (0 : Int) else 1) = x
      split
      · exact ⟨kF_u (kF_t (kF_t (kF_u (kF_t (kF_u kF_r) kF_nx)) kF_nx) kF_num), MT_u (MT_num (MT_nx (MT_u (MT_nx (MT_u h)))))⟩
      · exact ⟨kF_t (kF_t (kF_u kF_r) kF_nx) kF_fail, MT_fail (MT_nx (MT_u h))⟩
    · exact ⟨kF_fail, MT_fail h⟩
theorem opt1_f {i : Int} {m : Nat → Nat → Int} (h : MT m) : kF m (opt1 i m) ∧ MT (opt1 i m) := by
  unfold opt1
  split
  · exact ⟨kF_fail, MT_fail h⟩
  · split
    · exact ⟨kF_fail, MT_fail h⟩
    · exact ⟨kF_u (kF_t kF_nx kF_num), MT_u (MT_num (MT_nx h))⟩
theorem optV_f {i : Int} : ∀ (k : Nat) (m : Nat → Nat → Int), MT m → kF m (optV i k m) ∧ MT (optV i k m)
  | 0, m, h => ⟨kF_r, h⟩
  | k + 1, m, h => by
    unfold optV
    split
    · have a := opt1_f (i := i) h
      have b := optV_f (i := i) k _ a.2
      exact ⟨kF_t a.1 b.1, b.2⟩
    · exact ⟨kF_r, h⟩
/-- the model's state with a new step, and the token behind its word -/
def nws (m : Nat → Nat → Int) (kd : Int) : Nat → Nat → Int := nx (iu (iu (ifill (iu m 0 70 (m 0 70 + 1)) 42 (12 * m 0 70).toNat (12 * m 0 70 + 12).toNat (-1)) 42 (12 * m 0 70 + 0).toNat kd) 42 (12 * m 0 70 + 6).toNat (m 0 46))
def kL (kd : Int) : Int := if kd = 1 then 1 else 0
def kG (kd : Int) : Int := if kd = 0 then 1 else if kd = 1 then 100 else 9
noncomputable def midV (kd i : Int) (m : Nat → Nat → Int) : Nat → Nat → Int := if kd = 4 then iu (nameV m).2 42 (12 * i + 11).toNat (nameV m).1 else if kd = 6 then testV i m else iu (numV (kL kd) (kG kd) m).2 42 (12 * i + 1).toNat (numV (kL kd) (kG kd) m).1
noncomputable def optW (kd i : Int) (m : Nat → Nat → Int) : Nat → Nat → Int := if kd = 2 then optV i 5 m else m
def pushV (i : Int) (v : Nat → Nat → Int) : Nat → Nat → Int := iu (iu (iu v 45 (v 0 74).toNat i) 46 (v 0 74).toNat 0) 0 74 (v 0 74 + 1)
def endV (kd i : Int) (m : Nat → Nat → Int) : Int × (Nat → Nat → Int) := if kd = 5 ∨ kd = 6 then (if m 0 45 = 4 ∧ m 0 48 = 123 then (1, pushV i (nx m)) else (0, mfail 2 m)) else (if m 0 45 = 4 ∧ m 0 48 = 59 then (1, nx m) else (0, mfail 2 m))
noncomputable def stepV (m : Nat → Nat → Int) : Int × (Nat → Nat → Int) := if knd (wM m) = -1 then (0, mfail 2 m) else if m 0 70 = 60 ∨ 4 ≤ m 0 74 then (0, mfail 3 m) else if 0 < midV (knd (wM m)) (m 0 70) (nws m (knd (wM m))) 0 51 then (0, midV (knd (wM m)) (m 0 70) (nws m (knd (wM m)))) else if 0 < optW (knd (wM m)) (m 0 70) (midV (knd (wM m)) (m 0 70) (nws m (knd (wM m)))) 0 51 then (0, optW (knd (wM m)) (m 0 70) (midV (knd (wM m)) (m 0 70) (nws m (knd (wM m))))) else endV (knd (wM m)) (m 0 70) (optW (knd (wM m)) (m 0 70) (midV (knd (wM m)) (m 0 70) (nws m (knd (wM m)))))
theorem nws_f {m : Nat → Nat → Int} {kd : Int} (h : MT m) : MT (nws m kd) ∧ (∀ i j, i ≠ 42 → ¬ (i = 0 ∧ (j = 45 ∨ j = 46 ∨ j = 47 ∨ j = 48 ∨ j = 70)) → nws m kd i j = m i j) ∧ nws m kd 0 70 = m 0 70 + 1 := by
  have base : ∀ i j, i ≠ 42 → ¬ (i = 0 ∧ j = 70) → (iu (iu (ifill (iu m 0 70 (m 0 70 + 1)) 42 (12 * m 0 70).toNat (12 * m 0 70 + 12).toNat (-1)) 42 (12 * m 0 70 + 0).toNat kd) 42 (12 * m 0 70 + 6).toNat (m 0 46)) i j = m i j := by
    intro i j a b
    rw [iu_o a, iu_o a, ifill_row a, iu_ap, if_neg b]
  refine ⟨MT_nx (MT_c h (funext fun j => base 29 j (by decide) (by omega)) (fun j q => base 0 j (by decide) (by omega))), fun i j a b => ?_, ?_⟩
  · unfold nws nx
    rw [iu_ap, if_neg (by omega), iu_ap, if_neg (by omega), iu_ap, if_neg (by omega), iu_ap, if_neg (by omega)]
    exact base i j a (by omega)
  · unfold nws
    rw [nx_f.2 70 (by decide) (by decide) (by decide) (by decide), iu_o (by decide), iu_o (by decide), ifill_row (by decide), iu_eq]
theorem mid_f {kd i : Int} {m : Nat → Nat → Int} (h : MT m) : kF m (midV kd i m) ∧ MT (midV kd i m) := by
  unfold midV
  split
  · exact ⟨kF_u kF_name, MT_u (MT_name h)⟩
  · split
    · exact test_f h
    · exact ⟨kF_u kF_num, MT_u (MT_num h)⟩
theorem optW_f {kd i : Int} {m : Nat → Nat → Int} (h : MT m) : kF m (optW kd i m) ∧ MT (optW kd i m) := by
  unfold optW
  split
  · exact optV_f 5 m h
  · exact ⟨kF_r, h⟩
theorem M_step {G : ZG} {d : Nat} {iv : Nat → Nat → Int} {K : Option AV → AH → Prop} (h : MT iv) (h70 : 0 ≤ iv 0 70 ∧ iv 0 70 ≤ 60) (h74 : 0 ≤ iv 0 74) (k : K (some (vi (stepV iv).1)) (mkM (stepV iv).2)) : Z G mX12_step (d + 7) 0 0 0 [vr (some 0), vu, vu, vu] [] (mkM iv) K := by
  have r := (wn_r (b := iv 29) (t := iv 0 45) (a := iv 0 46) (e := iv 0 47)).1
  have r : -1 ≤ wM iv ∧ wM iv ≤ 14 := r
  have kr : -1 ≤ knd (wM iv) ∧ knd (wM iv) ≤ 6 := by unfold knd; split <;> omega
  unfold stepV at k
  apply sX12_step_0
  generalize hkd : knd (wM iv) = kd at *
  refine ⟨h.1, fun n => ⟨fun e => ?_, fun n60 => ⟨fun lt => ⟨by omega, ?_⟩, fun ge => ?_⟩⟩, fun e => ?_⟩
  · rw [if_neg n, if_pos (Or.inl e)] at k; exact k
  rotate_left
  · rw [if_neg n, if_pos (Or.inr ge)] at k; exact k
  · rw [if_pos e] at k; exact k
  rw [if_neg n, if_neg (by omega)] at k
  have hi : 0 ≤ iv 0 70 ∧ iv 0 70 < 60 := by omega
  -- the row of the new step
  refine lp_up (P := fun q v => Z G mX12_step (d + 7) 0 0 56 [vr (some 0), vi kd, vi (iv 0 70), vi q] [] (mkM v) K) 12 (fun q v => 0 ≤ q ∧ v = ifill (iu iv 0 70 (iv 0 70 + 1)) 42 (12 * iv 0 70).toNat (12 * iv 0 70 + q).toNat (-1)) ?_ ?_ 0 _ (by omega) ⟨by omega, by rw [show 12 * iv 0 70 + 0 = 12 * iv 0 70 by omega, ifill_nil]⟩
  rotate_left
  · rintro q v hq ⟨q0, ev⟩ ih
    subst ev
    apply sX12_step_56
    refine ⟨fun z => by omega, fun _ => ⟨hi, by omega, by omega, ih _ ⟨by omega, ?_⟩⟩⟩
    rw [ifill_snoc (by omega), show (12 * iv 0 70 + q).toNat + 1 = (12 * iv 0 70 + (q + 1)).toNat by omega]
  rintro v ⟨-, ev⟩
  apply sX12_step_56
  refine ⟨fun _ => ?_, fun z => by omega⟩
  obtain ⟨n1, n2, n3⟩ := nws_f (kd := kd) h
  have e46 : (iu v 42 (12 * iv 0 70 + 0).toNat kd) 0 46 = iv 0 46 := by rw [iu_o (by decide), ev, ifill_row (by decide), iu_k (by decide)]
  have ew : nx (iu (iu v 42 (12 * iv 0 70 + 0).toNat kd) 42 (12 * iv 0 70 + 6).toNat (iv 0 46)) = nws iv kd := by rw [ev]; rfl
  have tv : MT (iu (iu v 42 (12 * iv 0 70 + 0).toNat kd) 42 (12 * iv 0 70 + 6).toNat (iv 0 46)) := by
    refine MT_c h ?_ (fun j q => ?_)
    · rw [iu_row (by decide), iu_row (by decide), ev, ifill_row (by decide), iu_row (by decide)]
    · rw [iu_o (by decide), iu_o (by decide), ev, ifill_row (by decide), iu_k (by omega)]
  apply sX12_step_75
  rw [e46, ew]
  refine ⟨hi, by omega, hi, by omega, by have := tv.1.1; omega, tv.1.1.2.2.2, tv.1.2, ?_⟩
  clear ew tv ev e46
  generalize hm1 : nws iv kd = m1 at *
  have m74 : m1 0 74 = iv 0 74 := n2 0 74 (by decide) (by omega)
  -- behind the middle
  have e190 : ∀ m3, MT m3 → m3 0 74 = iv 0 74 → (if 0 < m3 0 51 then ((0 : Int), m3) else endV kd (iv 0 70) m3) = (if 0 < m3 0 51 then ((0 : Int), m3) else endV kd (iv 0 70) m3) → K (some (vi (if 0 < m3 0 51 then ((0 : Int), m3) else endV kd (iv 0 70) m3).1)) (mkM (if 0 < m3 0 51 then ((0 : Int), m3) else endV kd (iv 0 70) m3).2) → Z G mX12_step (d + 7) 0 0 190 [vr (some 0), vi kd, vi (iv 0 70), vu] [] (mkM m3) K := by
    intro m3 t3 e74 _ k3
    have opn : (kd = 5 ∨ kd = 6) → m3 0 51 ≤ 0 → ∀ b v, wantR 123 m3 b v → (¬ b = 0 → ((0 ≤ (v 0 74) ∧ (v 0 74) < (8 : Nat)) ∧ ((0 ≤ (v 0 74) ∧ (v 0 74) < (8 : Nat)) ∧ ((-2147483648 ≤ ((v 0 74) + 1) ∧ ((v 0 74) + 1) ≤ 2147483647) ∧ (K (some (vi 1)) (mkM (iu (iu (iu v 45 ((v 0 74).toNat) (iv 0 70)) 46 ((v 0 74).toNat) 0) 0 74 ((v 0 74) + 1)))))))) ∧ (b = 0 → (K (some (vi 0)) (mkM v))) := by
      intro c5 z b v w
      unfold endV at k3
      rw [if_neg (by omega), if_pos c5] at k3
      rcases w with ⟨y, e1, e2⟩ | ⟨nn, e1, e2⟩
      · unfold isS at y
        rw [if_pos y] at k3
        subst e2
        have : nx m3 0 74 = iv 0 74 := by rw [nx_f.2 74 (by decide) (by decide) (by decide) (by decide)]; exact e74
        exact ⟨fun _ => ⟨by omega, by omega, by omega, k3⟩, fun z => by omega⟩
      · unfold isS at nn
        rw [if_neg nn] at k3
        subst e2
        exact ⟨fun z => absurd e1 z, fun _ => k3⟩
    apply sX12_step_190
    refine ⟨fun z => ⟨fun c5 => ⟨t3.1, opn (Or.inl c5) z⟩, fun n5 => ⟨fun c6 => ⟨t3.1, opn (Or.inr c6) z⟩, fun n6 => ⟨t3.1, fun b v w => ?_⟩⟩⟩, fun z => ?_⟩
    · unfold endV at k3
      rw [if_neg (by omega), if_neg (by omega)] at k3
      rcases w with ⟨y, e1, e2⟩ | ⟨nn, e1, e2⟩
      · unfold isS at y
        rw [if_pos y] at k3
        rw [e1, e2]; exact ⟨Or.inr rfl, k3⟩
      · unfold isS at nn
        rw [if_neg nn] at k3
        rw [e1, e2]; exact ⟨Or.inl rfl, k3⟩
    · rw [if_pos z] at k3; exact k3
  have e171 : midV kd (iv 0 70) m1 = midV kd (iv 0 70) m1 → Z G mX12_step (d + 7) 0 0 171 [vr (some 0), vi kd, vi (iv 0 70), vu] [] (mkM (midV kd (iv 0 70) m1)) K := by
    intro _
    obtain ⟨f2, t2⟩ := mid_f (kd := kd) (i := iv 0 70) n1
    generalize midV kd (iv 0 70) m1 = m2 at *
    have m274 : m2 0 74 = iv 0 74 := by rw [f2 0 74 (by decide) (by decide) (by omega)]; exact m74
    obtain ⟨f3, t3⟩ := optW_f (kd := kd) (i := iv 0 70) t2
    have e3 := e190 (optW kd (iv 0 70) m2) t3 (by rw [f3 0 74 (by decide) (by decide) (by omega)]; exact m274) rfl
    apply sX12_step_171
    refine ⟨fun z => ?_, fun z => ?_⟩
    · rw [if_neg (by omega)] at k
      have e4 := e3 (by
        by_cases g : 0 < optW kd (iv 0 70) m2 0 51
        · rw [if_pos g] at k ⊢; exact k
        · rw [if_neg g] at k ⊢; exact k)
      refine ⟨fun c2 => ?_, fun c2 => ?_⟩
      · unfold optW at e4; rw [if_neg c2] at e4; exact e4
      · unfold optW at e4
        rw [if_pos c2] at e4
        exact M_options hi 5 m2 t2 (by have := un_4 (i := iv 0 70) (m := m2); omega) e4
    · rw [if_pos z] at k; exact k
  apply sX12_step_97
  have num : ∀ l g, l = kL kd → g = kG kd → kd ≠ 4 → kd ≠ 6 → ∀ r v, numR l g m1 r v → Z G mX12_step (d + 7) 0 0 171 [vr (some 0), vi kd, vi (iv 0 70), vu] [] (mkM (iu v 42 (12 * iv 0 70 + 1).toNat r)) K := by
    intro l g hl hg n4 n6 r v nr
    obtain ⟨er, evv⟩ := numR_e nr
    have e := e171 rfl
    have em : midV kd (iv 0 70) m1 = iu v 42 (12 * iv 0 70 + 1).toNat r := by unfold midV; rw [if_neg n4, if_neg n6, ← hl, ← hg, ← er, ← evv]
    rw [em] at e; exact e
  refine ⟨fun n4 => ⟨fun n6 => ⟨fun n0 => ⟨fun nn1 => ⟨n1.1, fun r v nr => ⟨hi, by omega, num 0 9 (by unfold kL; rw [if_neg nn1]) (by unfold kG; rw [if_neg n0, if_neg nn1]) n4 n6 r v nr⟩⟩, fun c1 => ⟨n1.1, fun r v nr => ⟨hi, by omega, num 1 100 (by unfold kL; rw [if_pos c1]) (by unfold kG; rw [if_neg n0, if_pos c1]) n4 n6 r v nr⟩⟩⟩, fun c0 => ⟨n1.1, fun r v nr => ⟨hi, by omega, num 0 1 (by unfold kL; rw [if_neg (by omega)]) (by unfold kG; rw [if_pos c0]) n4 n6 r v nr⟩⟩⟩, fun c6 => ?_⟩, fun c4 => ⟨n1.1, fun z => (n1.2.1 z).2, n1.2.2, fun r v nr => ⟨hi, by omega, ?_⟩⟩⟩
  · refine M_tests hi n1 ?_
    apply sX12_step_127
    have e := e171 rfl
    have em : midV kd (iv 0 70) m1 = testV (iv 0 70) m1 := by unfold midV; rw [if_neg n4, if_pos c6]
    rw [em] at e; exact e
  · obtain ⟨er, evv⟩ := nameR_e nr
    have e := e171 rfl
    have em : midV kd (iv 0 70) m1 = iu v 42 (12 * iv 0 70 + 11).toNat r := by unfold midV; rw [if_pos c4, ← er, ← evv]
    rw [em] at e; exact e

