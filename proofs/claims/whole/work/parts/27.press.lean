/-! ===== pressing ===== -/
set_option maxRecDepth 20000 in
theorem sX12_sideOf_29 {G : ZG} {d : Nat} {iv : Nat → Nat → Int} {K : Option AV → AH → Prop} {x1 x2 : Int} (h : ((iv 19 0) ≤ x2 → (K (some (vi 1)) (mkM (iu iv 0 0 0)))) ∧ (x2 < (iv 19 0) → ((0 ≤ x2 ∧ x2 < (20 : Nat)) ∧ ((¬ (iv 18 ((x2).toNat)) = x1 → ((-2147483648 ≤ (x2 + 1) ∧ (x2 + 1) ≤ 2147483647) ∧ (Z G mX12_sideOf (d + 3) 0 0 29 [vr (some 0), vi x1, vi (x2 + 1)] [] (mkM iv) K))) ∧ ((iv 18 ((x2).toNat)) = x1 → (K (some (vi 0)) (mkM (iu iv 0 0 0)))))))) : Z G mX12_sideOf (d + 3) 0 0 29 [vr (some 0), vi x1, vi x2] [] (mkM iv) K := (Z_iload_n (dX12_sideOf 17) rfl (Z_aload_n (dX12_sideOf 18) rfl (Z_gRM (r := (some 19)) (dX12_sideOf 19) lk_X12_75 sM0 rfl rfl (Z_iconst (dX12_sideOf 20) ⟨by decide, by decide⟩ (Z_ilM (x := (iv 19 0)) (dX12_sideOf 21) sM19 ⟨by decide, by decide⟩ rfl (Z_icmp_ge (dX12_sideOf 22) rfl (fun c1 => (Z_aload_n (dX12_sideOf 35) rfl (Z_iconst (dX12_sideOf 36) ⟨by decide, by decide⟩ (Z_cVM (As := [vi 1]) (S := []) (dX12_sideOf 37) lk_X12_227 sM0 (by decide) rfl rfl (Nat.le_of_ble_eq_true rfl) (Nat.le_of_ble_eq_true rfl) (M_gives  ((Z_ireturn (dX12_sideOf 38) rfl (h.1 c1)))))))) (fun c2 => (Z_aload_n (dX12_sideOf 23) rfl (Z_gRM (r := (some 18)) (dX12_sideOf 24) lk_X12_72 sM0 rfl rfl (Z_iload_n (dX12_sideOf 25) rfl (Z_ilM (x := (iv 18 ((x2).toNat))) (dX12_sideOf 26) sM18 (h.2 c2).1 rfl (Z_iload_n (dX12_sideOf 27) rfl (Z_icmp_ne (dX12_sideOf 28) rfl (fun c3 => (Z_iinc (dX12_sideOf 33) rfl (Nat.le_of_ble_eq_true rfl) ((h.2 c2).2.1 c3).1 rfl (Z_goto (dX12_sideOf 34) rfl ((h.2 c2).2.1 c3).2))) (fun c4 => (Z_aload_n (dX12_sideOf 29) rfl (Z_iconst (dX12_sideOf 30) ⟨by decide, by decide⟩ (Z_cVM (As := [vi 0]) (S := []) (dX12_sideOf 31) lk_X12_227 sM0 (by decide) rfl rfl (Nat.le_of_ble_eq_true rfl) (Nat.le_of_ble_eq_true rfl) (M_gives  ((Z_ireturn (dX12_sideOf 32) rfl ((h.2 c2).2.2 c4)))))))))))))))))))))
set_option maxRecDepth 20000 in
theorem sX11_press_26 {G : ZG} {d : Nat} {iv : Nat → Nat → Int} {K : Option AV → AH → Prop} {rv : Nat → Nat → Option Nat} {x1 : Int} (hR : RC rv) (h : (2 ≤ x1 → (Z G mX11_press (d + 4) 0 0 48 [vr (some 0), vi 0, vu] [] (mkC iv rv) K)) ∧ (x1 < 2 → ((0 ≤ x1 ∧ x1 < (2 : Nat)) ∧ ((0 ≤ iv (sdA x1) 6 ∧ iv (sdA x1) 6 ≤ 100000000) ∧ ((-2147483648 ≤ (x1 + 1) ∧ (x1 + 1) ≤ 2147483647) ∧ (Z G mX11_press (d + 4) 0 0 26 [vr (some 0), vi (x1 + 1), vu] [] (mkC (iu (iu (iu iv (sdA x1) 4 0) (sdA x1) 5 (-1)) (sdA x1) 6 (iv (sdA x1) 6 + 1)) rv) K)))))) : Z G mX11_press (d + 4) 0 0 26 [vr (some 0), vi x1, vu] [] (mkC iv rv) K := (Z_iload_n (dX11_press 14) rfl (Z_iconst (dX11_press 15) ⟨by decide, by decide⟩ (Z_icmp_ge (dX11_press 16) rfl (fun c1 => (Z_iconst (dX11_press 24) ⟨by decide, by decide⟩ (Z_istore_n (dX11_press 25) (Nat.le_of_ble_eq_true rfl) rfl (h.1 c1)))) (fun c2 => (Z_aload_n (dX11_press 17) rfl (Z_gRC (r := (some 15)) (dX11_press 18) lk_X11_32 sC0 rfl (hR 3) (Z_iload_n (dX11_press 19) rfl (Z_alC (r := (some (sdA x1))) (dX11_press 20) sC15 (Or.inr (Or.inl rfl)) (h.2 c2).1 (sdA_r hR (h.2 c2).1) (Z_cVC (As := []) (S := []) (dX11_press 21) lk_X11_188 (Sd_sh (sdA_is x1)) (by decide) rfl rfl (Nat.le_of_ble_eq_true rfl) (Nat.le_of_ble_eq_true rfl) (C_empty hR (sdA_is x1) (h.2 c2).2.1 ((Z_iinc (dX11_press 22) rfl (Nat.le_of_ble_eq_true rfl) (h.2 c2).2.2.1 rfl (Z_goto (dX11_press 23) rfl (h.2 c2).2.2.2)))))))))))))
set_option maxRecDepth 20000 in
theorem sX11_press_48 {G : ZG} {d : Nat} {iv : Nat → Nat → Int} {K : Option AV → AH → Prop} {rv : Nat → Nat → Option Nat} {x1 : Int} (hR : RC rv) (h : ((iv 10 3) ≤ x1 → (K (some (vi 1)) (mkC (iu iv 0 17 0) rv))) ∧ (x1 < (iv 10 3) → ((0 ≤ x1 ∧ x1 < (10 : Nat)) ∧ ((0 ≤ iv 30 3 ∧ iv 30 3 ≤ 10) ∧ ((0 ≤ (iv 31 ((x1).toNat)) ∧ (iv 31 ((x1).toNat)) < 10) ∧ ((0 ≤ (sdIn (iv 30 3) (iv 30 1) (iv 31 ((x1).toNat))) ∧ (sdIn (iv 30 3) (iv 30 1) (iv 31 ((x1).toNat))) < (2 : Nat)) ∧ ((0 ≤ (iv 31 ((x1).toNat)) ∧ (iv 31 ((x1).toNat)) < 10) ∧ ((1 ≤ iv 12 ((iv 31 ((x1).toNat))).toNat ∧ iv 12 ((iv 31 ((x1).toNat))).toNat ≤ 60) ∧ ((0 ≤ iv (sdA (sdIn (iv 30 3) (iv 30 1) (iv 31 ((x1).toNat)))) 4 ∧ iv (sdA (sdIn (iv 30 3) (iv 30 1) (iv 31 ((x1).toNat)))) 4 + iv 12 ((iv 31 ((x1).toNat))).toNat ≤ 400) ∧ ((0 ≤ iv (sdA (sdIn (iv 30 3) (iv 30 1) (iv 31 ((x1).toNat)))) 6 ∧ iv (sdA (sdIn (iv 30 3) (iv 30 1) (iv 31 ((x1).toNat)))) 6 ≤ 100000000) ∧ ((-2147483648 ≤ (x1 + 1) ∧ (x1 + 1) ≤ 2147483647) ∧ (Z G mX11_press (d + 4) 0 0 48 [vr (some 0), vi (x1 + 1), vu] [] (mkC (layC iv (sdA (sdIn (iv 30 3) (iv 30 1) (iv 31 ((x1).toNat)))) (iv (sdA (sdIn (iv 30 3) (iv 30 1) (iv 31 ((x1).toNat)))) 4) (iv 12 ((iv 31 ((x1).toNat))).toNat) (fun j => iv 11 (60 * (iv 31 ((x1).toNat)) + (j - iv (sdA (sdIn (iv 30 3) (iv 30 1) (iv 31 ((x1).toNat)))) 4)).toNat) (iv 31 ((x1).toNat)) (iv (sdA (sdIn (iv 30 3) (iv 30 1) (iv 31 ((x1).toNat)))) 6)) rv) K)))))))))))) : Z G mX11_press (d + 4) 0 0 48 [vr (some 0), vi x1, vu] [] (mkC iv rv) K := (Z_iload_n (dX11_press 26) rfl (Z_aload_n (dX11_press 27) rfl (Z_gRC (r := (some 10)) (dX11_press 28) lk_X11_19 sC0 rfl (hR 1) (Z_gIC (x := (iv 10 3)) (dX11_press 29) lk_X11_159 sC10 (Or.inl rfl) rfl (Z_icmp_ge (dX11_press 30) rfl (fun c1 => (Z_aload_n (dX11_press 53) rfl (Z_cVC (As := []) (S := []) (dX11_press 54) lk_X11_120 sC0 (by decide) rfl rfl (Nat.le_of_ble_eq_true rfl) (Nat.le_of_ble_eq_true rfl) (C_accept hR ((Z_zreturn (dX11_press 55) rfl (Or.inr rfl) (h.1 c1))))))) (fun c2 => (Z_aload_n (dX11_press 31) rfl (Z_gRC (r := (some 30)) (dX11_press 32) lk_X11_51 sC0 rfl (hR 5) (Z_gRC (r := (some 31)) (dX11_press 33) lk_X11_251 sC30 rfl (hR 39) (Z_iload_n (dX11_press 34) rfl (Z_ilC (x := (iv 31 ((x1).toNat))) (dX11_press 35) sC31 (h.2 c2).1 rfl (Z_istore_n (dX11_press 36) (Nat.le_of_ble_eq_true rfl) rfl (Z_aload_n (dX11_press 37) rfl (Z_gRC (r := (some 15)) (dX11_press 38) lk_X11_32 sC0 rfl (hR 3) (Z_aload_n (dX11_press 39) rfl (Z_gRC (r := (some 30)) (dX11_press 40) lk_X11_51 sC0 rfl (hR 5) (Z_aload_n (dX11_press 41) rfl (Z_gRC (r := (some 30)) (dX11_press 42) lk_X11_51 sC0 rfl (hR 5) (Z_gIC (x := (iv 30 1)) (dX11_press 43) lk_X11_242 sC30 (Or.inl rfl) rfl (Z_iload_n (dX11_press 44) rfl (Z_cVC (As := [vi (iv 30 1), vi (iv 31 ((x1).toNat))]) (S := [vr (some 15)]) (dX11_press 45) lk_X11_245 sC30 (by decide) rfl rfl (Nat.le_of_ble_eq_true rfl) (Nat.le_of_ble_eq_true rfl) (C_sideIn hR (h.2 c2).2.1 (h.2 c2).2.2.1 ((Z_alC (r := (some (sdA (sdIn (iv 30 3) (iv 30 1) (iv 31 ((x1).toNat)))))) (dX11_press 46) sC15 (Or.inr (Or.inl rfl)) (h.2 c2).2.2.2.1 (sdA_r hR (h.2 c2).2.2.2.1) (Z_aload_n (dX11_press 47) rfl (Z_gRC (r := (some 10)) (dX11_press 48) lk_X11_19 sC0 rfl (hR 1) (Z_iload_n (dX11_press 49) rfl (Z_cVC (As := [vr (some 10), vi (iv 31 ((x1).toNat))]) (S := []) (dX11_press 50) lk_X11_199 (Sd_sh (sdA_is (sdIn (iv 30 3) (iv 30 1) (iv 31 ((x1).toNat))))) (by decide) rfl rfl (Nat.le_of_ble_eq_true rfl) (Nat.le_of_ble_eq_true rfl) (C_appendSong hR (sdA_is (sdIn (iv 30 3) (iv 30 1) (iv 31 ((x1).toNat)))) (h.2 c2).2.2.2.2.1 (h.2 c2).2.2.2.2.2.1 (h.2 c2).2.2.2.2.2.2.1 (h.2 c2).2.2.2.2.2.2.2.1 ((Z_iinc (dX11_press 51) rfl (Nat.le_of_ble_eq_true rfl) (h.2 c2).2.2.2.2.2.2.2.2.1 rfl (Z_goto (dX11_press 52) rfl (Z.fg (L' := [vr (some 0), vi (x1 + 1), vu]) (L := [vr (some 0), vi (x1 + 1), vi (iv 31 ((x1).toNat))]) ⟨Or.inl rfl, ⟨Or.inl rfl, ⟨Or.inr rfl, trivial⟩⟩⟩ (h.2 c2).2.2.2.2.2.2.2.2.2)))))))))))))))))))))))))))))))))
set_option maxRecDepth 20000 in
theorem sX12_press_15 {G : ZG} {d : Nat} {iv : Nat → Nat → Int} {K : Option AV → AH → Prop} {x1 : Int} (h : (2 ≤ x1 → (K (some (vi 1)) (mkM (iu iv 0 0 0)))) ∧ (x1 < 2 → ((0 ≤ x1 ∧ x1 ≤ 1) ∧ (Z G mX12_press (d + 3) 0 0 27 [vr (some 0), vi x1, vi 0, vu, vu] [] (mkM (iu (iu iv 7 (x1).toNat 0) 10 (x1).toNat (-1))) K)))) : Z G mX12_press (d + 3) 0 0 15 [vr (some 0), vi x1, vu, vu, vu] [] (mkM iv) K := (Z_iload_n (dX12_press 9) rfl (Z_iconst (dX12_press 10) ⟨by decide, by decide⟩ (Z_icmp_ge (dX12_press 11) rfl (fun c1 => (Z_aload_n (dX12_press 58) rfl (Z_iconst (dX12_press 59) ⟨by decide, by decide⟩ (Z_cVM (As := [vi 0]) (S := []) (dX12_press 60) lk_X12_205 sM0 (by decide) rfl rfl (Nat.le_of_ble_eq_true rfl) (Nat.le_of_ble_eq_true rfl) (M_isT  ((Z_zreturn (dX12_press 61) rfl (Or.inr rfl) (h.1 c1)))))))) (fun c2 => (Z_aload_n (dX12_press 12) rfl (Z_iload_n (dX12_press 13) rfl (Z_cVM (As := [vi x1]) (S := []) (dX12_press 14) lk_X12_241 sM0 (by decide) rfl rfl (Nat.le_of_ble_eq_true rfl) (Nat.le_of_ble_eq_true rfl) (M_empty  (h.2 c2).1 ((Z_iconst (dX12_press 15) ⟨by decide, by decide⟩ (Z_istore_n (dX12_press 16) (Nat.le_of_ble_eq_true rfl) rfl (h.2 c2).2)))))))))))
set_option maxRecDepth 20000 in
theorem sX12_press_27 {G : ZG} {d : Nat} {iv : Nat → Nat → Int} {K : Option AV → AH → Prop} {x1 x2 : Int} (h : (0 ≤ x1 ∧ x1 < (2 : Nat)) ∧ (((iv 19 ((x1).toNat)) ≤ x2 → ((-2147483648 ≤ (x1 + 1) ∧ (x1 + 1) ≤ 2147483647) ∧ (Z G mX12_press (d + 3) 0 0 15 [vr (some 0), vi (x1 + 1), vu, vu, vu] [] (mkM iv) K))) ∧ (x2 < (iv 19 ((x1).toNat)) → ((-2147483648 ≤ (10 * x1) ∧ (10 * x1) ≤ 2147483647) ∧ ((-2147483648 ≤ ((10 * x1) + x2) ∧ ((10 * x1) + x2) ≤ 2147483647) ∧ ((0 ≤ ((10 * x1) + x2) ∧ ((10 * x1) + x2) < (20 : Nat)) ∧ (Z G mX12_press (d + 3) 0 0 52 [vr (some 0), vi x1, vi x2, vi (iv 18 (((10 * x1) + x2).toNat)), vi 0] [] (mkM iv) K))))))) : Z G mX12_press (d + 3) 0 0 27 [vr (some 0), vi x1, vi x2, vu, vu] [] (mkM iv) K := (Z_iload_n (dX12_press 17) rfl (Z_aload_n (dX12_press 18) rfl (Z_gRM (r := (some 19)) (dX12_press 19) lk_X12_75 sM0 rfl rfl (Z_iload_n (dX12_press 20) rfl (Z_ilM (x := (iv 19 ((x1).toNat))) (dX12_press 21) sM19 h.1 rfl (Z_icmp_ge (dX12_press 22) rfl (fun c1 => (Z_iinc (dX12_press 56) rfl (Nat.le_of_ble_eq_true rfl) (h.2.1 c1).1 rfl (Z_goto (dX12_press 57) rfl (Z.fg (L' := [vr (some 0), vi (x1 + 1), vu, vu, vu]) (L := [vr (some 0), vi (x1 + 1), vi x2, vu, vu]) ⟨Or.inl rfl, ⟨Or.inl rfl, ⟨Or.inr rfl, ⟨Or.inl rfl, ⟨Or.inl rfl, trivial⟩⟩⟩⟩⟩ (h.2.1 c1).2)))) (fun c2 => (Z_aload_n (dX12_press 23) rfl (Z_gRM (r := (some 18)) (dX12_press 24) lk_X12_72 sM0 rfl rfl (Z_bipush (dX12_press 25) ⟨by decide, by decide⟩ (Z_iload_n (dX12_press 26) rfl (Z_imul (dX12_press 27) (h.2.2 c2).1 (Z_iload_n (dX12_press 28) rfl (Z_iadd (dX12_press 29) (h.2.2 c2).2.1 (Z_ilM (x := (iv 18 (((10 * x1) + x2).toNat))) (dX12_press 30) sM18 (h.2.2 c2).2.2.1 rfl (Z_istore_n (dX12_press 31) (Nat.le_of_ble_eq_true rfl) rfl (Z_iconst (dX12_press 32) ⟨by decide, by decide⟩ (Z_istore (dX12_press 33) (Nat.le_of_ble_eq_true rfl) rfl (h.2.2 c2).2.2.2))))))))))))))))))
set_option maxRecDepth 20000 in
theorem sX12_press_52 {G : ZG} {d : Nat} {iv : Nat → Nat → Int} {K : Option AV → AH → Prop} {x1 x2 x3 x4 : Int} (h : (0 ≤ x3 ∧ x3 < (10 : Nat)) ∧ (((iv 4 ((x3).toNat)) ≤ x4 → ((-2147483648 ≤ (x2 + 1) ∧ (x2 + 1) ≤ 2147483647) ∧ (Z G mX12_press (d + 3) 0 0 27 [vr (some 0), vi x1, vi (x2 + 1), vu, vu] [] (mkM iv) K))) ∧ (x4 < (iv 4 ((x3).toNat)) → ((-2147483648 ≤ (60 * x3) ∧ (60 * x3) ≤ 2147483647) ∧ ((-2147483648 ≤ ((60 * x3) + x4) ∧ ((60 * x3) + x4) ≤ 2147483647) ∧ ((0 ≤ ((60 * x3) + x4) ∧ ((60 * x3) + x4) < (600 : Nat)) ∧ (Z G mX12_puts (d + 2) 0 0 0 [vr (some 0), vi x1, vi (iv 6 (((60 * x3) + x4).toNat)), vi x3] [] (mkM iv) (fun r A1 => Z G mX12_press (d + 3) 0 0 81 [vr (some 0), vi x1, vi x2, vi x3, vi x4] (r.toList ++ []) A1 K)))))))) : Z G mX12_press (d + 3) 0 0 52 [vr (some 0), vi x1, vi x2, vi x3, vi x4] [] (mkM iv) K := (Z_iload (dX12_press 34) rfl (Z_aload_n (dX12_press 35) rfl (Z_gRM (r := (some 4)) (dX12_press 36) lk_X12_30 sM0 rfl rfl (Z_iload_n (dX12_press 37) rfl (Z_ilM (x := (iv 4 ((x3).toNat))) (dX12_press 38) sM4 h.1 rfl (Z_icmp_ge (dX12_press 39) rfl (fun c1 => (Z_iinc (dX12_press 54) rfl (Nat.le_of_ble_eq_true rfl) (h.2.1 c1).1 rfl (Z_goto (dX12_press 55) rfl (Z.fg (L' := [vr (some 0), vi x1, vi (x2 + 1), vu, vu]) (L := [vr (some 0), vi x1, vi (x2 + 1), vi x3, vi x4]) ⟨Or.inl rfl, ⟨Or.inl rfl, ⟨Or.inl rfl, ⟨Or.inr rfl, ⟨Or.inr rfl, trivial⟩⟩⟩⟩⟩ (h.2.1 c1).2)))) (fun c2 => (Z_aload_n (dX12_press 40) rfl (Z_iload_n (dX12_press 41) rfl (Z_aload_n (dX12_press 42) rfl (Z_gRM (r := (some 6)) (dX12_press 43) lk_X12_36 sM0 rfl rfl (Z_bipush (dX12_press 44) ⟨by decide, by decide⟩ (Z_iload_n (dX12_press 45) rfl (Z_imul (dX12_press 46) (h.2.2 c2).1 (Z_iload (dX12_press 47) rfl (Z_iadd (dX12_press 48) (h.2.2 c2).2.1 (Z_ilM (x := (iv 6 (((60 * x3) + x4).toNat))) (dX12_press 49) sM6 (h.2.2 c2).2.2.1 rfl (Z_iload_n (dX12_press 50) rfl (Z_cVM (As := [vi x1, vi (iv 6 (((60 * x3) + x4).toNat)), vi x3]) (S := []) (dX12_press 51) lk_X12_248 sM0 (by decide) rfl rfl (Nat.le_of_ble_eq_true rfl) (Nat.le_of_ble_eq_true rfl) (h.2.2 c2).2.2.2)))))))))))))))))))
theorem M_sideOfL {G : ZG} {d : Nat} {iv : Nat → Nat → Int} {K : Option AV → AH → Prop} {x1 : Int} (hm : 0 ≤ iv 19 0 ∧ iv 19 0 ≤ 10) (k0 : (∃ i : Int, 0 ≤ i ∧ i < iv 19 0 ∧ iv 18 i.toNat = x1) → K (some (vi 0)) (mkM (iu iv 0 0 0))) (k1 : (∀ i : Int, 0 ≤ i → i < iv 19 0 → iv 18 i.toNat ≠ x1) → K (some (vi 1)) (mkM (iu iv 0 0 0))) : Z G mX12_sideOf (d + 3) 0 0 29 [vr (some 0), vi x1, vi 0] [] (mkM iv) K := by
  refine lp_up (P := fun j (_ : Unit) => Z G mX12_sideOf (d + 3) 0 0 29 [vr (some 0), vi x1, vi j] [] (mkM iv) K) (iv 19 0) (fun j _ => 0 ≤ j ∧ ∀ i : Int, 0 ≤ i → i < j → iv 18 i.toNat ≠ x1) ?_ ?_ 0 () hm.1 ⟨by omega, fun i a b => by omega⟩
  · rintro - ⟨-, f⟩
    apply sX12_sideOf_29
    exact ⟨fun _ => k1 f, fun h => by omega⟩
  · rintro j - hj ⟨j0, f⟩ ih
    apply sX12_sideOf_29
    refine ⟨fun h => by omega, fun _ => ⟨by omega, fun n => ⟨by omega, ih () ⟨by omega, fun i a b => ?_⟩⟩, fun e => k0 ⟨j, j0, hj, e⟩⟩⟩
    by_cases e : i = j
    · subst e; exact n
    · exact f i a (by omega)
/-- the levels, and the songs, of a row of songs that is read from its end -/
def catL (lv l : Int → Int) : List Int → Int → Int
  | [], _ => 0
  | e :: es, p => if p < lenL l es then catL lv l es p else lv (60 * e + (p - lenL l es))
def ownL (l : Int → Int) : List Int → Int → Int
  | [], _ => -1
  | e :: es, p => if p < lenL l es then ownL l es p else e
theorem lenL_app {l : Int → Int} : ∀ A B : List Int, lenL l (A ++ B) = lenL l A + lenL l B
  | [], B => by simp [lenL]
  | a :: A, B => by
    show lenL l (A ++ B) + l a = (lenL l A + l a) + lenL l B
    rw [lenL_app A B]
    omega
theorem lenL_nn {l : Int → Int} : ∀ L : List Int, (∀ x ∈ L, 0 ≤ l x) → 0 ≤ lenL l L
  | [], _ => by simp [lenL]
  | a :: A, h => by
    unfold lenL
    have := lenL_nn A (fun x q => h x (List.mem_cons_of_mem _ q))
    have := h a (by simp)
    omega
/-- side o holds the songs of L, and nothing else -/
def sdHas (v : Nat → Nat → Int) (o : Nat) (lv l : Int → Int) (L : List Int) : Prop := v o 4 = lenL l L ∧ v o 5 = -1 ∧ ∀ p : Int, 0 ≤ p → p < lenL l L → v (o + 1) p.toNat = catL lv l L p ∧ v (o + 2) p.toNat = ownL l L p
theorem sdHas_put {v : Nat → Nat → Int} {o : Nat} {lv l : Int → Int} {L : List Int} {e c : Int} {f : Nat → Int} (hl : 0 ≤ lenL l L) (he : 0 ≤ l e) (h : sdHas v o lv l L) (hf : ∀ p : Int, lenL l L ≤ p → f p.toNat = lv (60 * e + (p - lenL l L))) : sdHas (layC v o (v o 4) (l e) f e c) o lv l (e :: L) := by
  obtain ⟨h1, h5, h2⟩ := h
  refine ⟨?_, ?_, fun p a b => ?_⟩
  · rw [layC_4, h1]; rfl
  · unfold layC
    rw [iu_k (by decide), iu_k (by decide), imap_row (by omega), imap_row (by omega)]
    exact h5
  · unfold lenL at b
    unfold layC catL ownL
    rw [iu_o (by omega), iu_o (by omega), iu_o (by omega), iu_o (by omega), imap_row (show o + 1 ≠ o + 2 by omega), imap_ap, imap_ap, imap_ap, h1]
    by_cases q : p < lenL l L
    · have c1 : ¬ (lenL l L).toNat ≤ p.toNat := by omega
      simp only [if_pos q, c1, false_and, and_false, if_false]
      exact h2 p a q
    · have c1 : (lenL l L).toNat ≤ p.toNat := by omega
      have c2 : p.toNat < (lenL l L + l e).toNat := by omega
      simp only [if_neg q, c1, c2, and_self, if_true]
      exact ⟨hf p (by omega), trivial⟩
theorem sdHas_o {v : Nat → Nat → Int} {o o' : Nat} {lv l : Int → Int} {L : List Int} {n m w c : Int} {f : Nat → Int} (ho : o + 2 < o' ∨ o' + 2 < o) (h : sdHas v o lv l L) : sdHas (layC v o' n m f w c) o lv l L := by
  unfold sdHas at *
  rw [layC_o (by omega) (by omega) (by omega), layC_o (by omega) (by omega) (by omega), layC_o (by omega) (by omega) (by omega)]
  exact h
/-- what pressing may change in the class -/
def PrF (u v : Nat → Nat → Int) : Prop := ∀ i j, ¬ (i = 17 ∨ i = 18 ∨ i = 21 ∨ i = 22) → ¬ ((i = 16 ∨ i = 20) ∧ (j = 4 ∨ j = 5 ∨ j = 6)) → v i j = u i j
theorem PrF.row {u v : Nat → Nat → Int} {i : Nat} (h : PrF u v) (h1 : ¬ (i = 17 ∨ i = 18 ∨ i = 21 ∨ i = 22)) (h2 : ¬ (i = 16 ∨ i = 20)) : v i = u i := by
  funext j; exact h i j h1 (fun q => h2 q.1)
theorem PrF.lay {u v : Nat → Nat → Int} {o : Nat} {n m w c : Int} {f : Nat → Int} (h : PrF u v) (ho : o = 16 ∨ o = 20) : PrF u (layC v o n m f w c) := by
  intro i j a b
  rw [← h i j a b]
  unfold layC
  rw [show ∀ (x : Nat → Nat → Int) y, iu x o 6 y i j = x i j from fun x y => if_neg (by omega), show ∀ (x : Nat → Nat → Int) y, iu x o 4 y i j = x i j from fun x y => if_neg (by omega), imap_ap, imap_ap, if_neg (by omega), if_neg (by omega)]
theorem bestOk.len {u : Nat → Nat → Int} (h : bestOk u) (hn : 0 ≤ u 30 3) (h2 : ¬ u 30 2 = -1) : lenL (fun i => u 12 i.toNat) (srtH (u 13) (u 12) (pS (u 30 3) (u 30 1) 0) (u 30 3).toNat) ≤ u 30 4 ∧ lenL (fun i => u 12 i.toNat) (srtH (u 13) (u 12) (pS (u 30 3) (u 30 1) 1) (u 30 3).toNat) ≤ u 30 4 := by
  have b := bst_r (F := lossC u) (zshl 1 (u 30 3)).toNat
  rw [← h.2] at b
  rcases b with b | b
  · exact absurd b h2
  · have e := b.2
    dsimp only at e
    unfold lossC lossF at e
    rw [show (((u 30 3).toNat : Nat) : Int) = u 30 3 by omega] at e
    unfold srtH
    split at e
    · exact absurd e.symm h2
    · rename_i q
      omega
theorem bestOk.row {u : Nat → Nat → Int} (h : bestOk u) (p : Int → Bool) : (rl (fun i => u 31 i.toNat) (u 30 3).toNat).filter p = srtH (u 13) (u 12) p (u 30 3).toNat := by
  rw [h.1]
  exact srt_filter ahd_r ahd_t ahd_a _
theorem bestOk.mem {u : Nat → Nat → Int} (h : bestOk u) {i : Int} (h1 : 0 ≤ i) (h2 : i < u 30 3) : 0 ≤ u 31 i.toNat ∧ u 31 i.toNat < u 30 3 := by
  have q : u 31 i.toNat ∈ rl (fun i => u 31 i.toNat) (u 30 3).toNat := (rl_mem _).mpr ⟨i, h1, by omega, rfl⟩
  rw [h.1] at q
  have := ((srt_mem _).mp q).1
  omega
theorem C_press {G : ZG} {d : Nat} {u : Nat → Nat → Int} {K : Option AV → AH → Prop} {rv : Nat → Nat → Option Nat} (hR : RC rv) (hs : sgsOk u) (hb : bestOk u) (h2 : ¬ u 30 2 = -1) (h3 : u 30 3 = u 10 3) (h4 : u 30 4 ≤ 400) (c1 : 0 ≤ u 16 6 ∧ u 16 6 ≤ 99000000) (c2 : 0 ≤ u 20 6 ∧ u 20 6 ≤ 99000000) (k : ∀ v : Nat → Nat → Int, PrF u v → sdHas v 16 (fun i => u 11 i.toNat) (fun i => u 12 i.toNat) (srtH (u 13) (u 12) (pS (u 30 3) (u 30 1) 0) (u 30 3).toNat) → sdHas v 20 (fun i => u 11 i.toNat) (fun i => u 12 i.toNat) (srtH (u 13) (u 12) (pS (u 30 3) (u 30 1) 1) (u 30 3).toNat) → (u 16 6 < v 16 6 ∧ v 16 6 ≤ u 16 6 + 601) → (u 20 6 < v 20 6 ∧ v 20 6 ≤ u 20 6 + 601) → K (some (vi 1)) (mkC (iu v 0 17 0) rv)) : Z G mX11_press (d + 4) 0 0 26 [vr (some 0), vi 0, vu] [] (mkC u rv) K := by
  obtain ⟨hn, hsg⟩ := hs
  have ln := hb.len (by omega) h2
  rw [← hb.row, ← hb.row] at ln
  have full : ∀ (p : Int → Bool) (j : Int), 0 ≤ j → j < u 30 3 → p (u 31 j.toNat) = true → lenL (fun i => u 12 i.toNat) ((rl (fun i => u 31 i.toNat) j.toNat).filter p) + u 12 (u 31 j.toNat).toNat ≤ lenL (fun i => u 12 i.toNat) ((rl (fun i => u 31 i.toNat) (u 30 3).toNat).filter p) ∧ 0 ≤ lenL (fun i => u 12 i.toNat) ((rl (fun i => u 31 i.toNat) j.toNat).filter p) := by
    intro p j j0 jn hp
    have nn : ∀ L : List Int, (∀ x ∈ L, x ∈ rl (fun i => u 31 i.toNat) (u 30 3).toNat) → 0 ≤ lenL (fun i => u 12 i.toNat) (L.filter p) := by
      intro L hL
      refine lenL_nn _ (fun x hx => ?_)
      have := hL x (List.mem_filter.mp hx).1
      rw [hb.1] at this
      have := ((srt_mem _).mp this).1
      have := (hsg x this.1 (by omega)).2.1
      omega
    obtain ⟨T, hT⟩ := rl_split (f := fun i => u 31 i.toNat) j0 (u 30 3).toNat (by omega)
    have n1 := nn T (fun x hx => by rw [hT]; exact List.mem_append_left _ hx)
    have n2 := nn (rl (fun i => u 31 i.toNat) j.toNat) (fun x hx => by rw [hT]; exact List.mem_append_right _ (List.mem_cons_of_mem _ hx))
    refine ⟨?_, n2⟩
    rw [hT, List.filter_append, lenL_app, List.filter_cons_of_pos hp]
    dsimp only [lenL] at *
    omega
  have i0 : ∀ w : Nat → Nat → Int, PrF u w → sdHas w 16 (fun i => u 11 i.toNat) (fun i => u 12 i.toNat) [] → sdHas w 20 (fun i => u 11 i.toNat) (fun i => u 12 i.toNat) [] → w 16 6 = u 16 6 + 1 → w 20 6 = u 20 6 + 1 → Z G mX11_press (d + 4) 0 0 48 [vr (some 0), vi 0, vu] [] (mkC w rv) K := by
    intro w w1 w2 w3 w4 w5
    refine lp_up (P := fun j v => Z G mX11_press (d + 4) 0 0 48 [vr (some 0), vi j, vu] [] (mkC v rv) K) (u 30 3) (fun j v => 0 ≤ j ∧ PrF u v ∧ sdHas v 16 (fun i => u 11 i.toNat) (fun i => u 12 i.toNat) ((rl (fun i => u 31 i.toNat) j.toNat).filter (pS (u 30 3) (u 30 1) 0)) ∧ sdHas v 20 (fun i => u 11 i.toNat) (fun i => u 12 i.toNat) ((rl (fun i => u 31 i.toNat) j.toNat).filter (pS (u 30 3) (u 30 1) 1)) ∧ (u 16 6 < v 16 6 ∧ v 16 6 ≤ u 16 6 + 1 + 60 * j) ∧ (u 20 6 < v 20 6 ∧ v 20 6 ≤ u 20 6 + 1 + 60 * j)) ?_ ?_ 0 w (by omega) ⟨by omega, w1, w2, w3, by omega, by omega⟩
    · rintro v ⟨-, f1, s0, s1, b0, b1⟩
      apply sX11_press_48 hR
      rw [f1.row (i := 10) (by omega) (by omega)]
      rw [hb.row] at s0 s1
      exact ⟨fun _ => k v f1 s0 s1 (by omega) (by omega), fun h => by omega⟩
    · rintro j v hj ⟨j0, f1, s0, s1, b0, b1⟩ ih
      apply sX11_press_48 hR
      have m := hb.mem j0 hj
      obtain ⟨o1, o2, o3⟩ := hsg _ m.1 (by omega)
      have r1 : rl (fun i => u 31 i.toNat) (j + 1).toNat = u 31 j.toNat :: rl (fun i => u 31 i.toNat) j.toNat := rl_s j0
      rw [f1.row (i := 10) (by omega) (by omega), f1.row (i := 30) (by omega) (by omega), f1.row (i := 31) (by omega) (by omega), f1.row (i := 12) (by omega) (by omega), f1.row (i := 11) (by omega) (by omega)]
      refine ⟨fun h => by omega, fun _ => ⟨by omega, by omega, o1, ?_⟩⟩
      rcases sdIn_01 (u 30 3) (u 30 1) (u 31 j.toNat) with e | e
      · rw [e, show sdA 0 = 16 from rfl]
        have p0 : pS (u 30 3) (u 30 1) 0 (u 31 j.toNat) = true := by unfold pS; simp [e]
        have p1 : ¬ pS (u 30 3) (u 30 1) 1 (u 31 j.toNat) = true := by unfold pS; simp [e]
        have fl := full _ j j0 hj p0
        have q0 := s0.1
        refine ⟨by omega, o1, o2, by omega, by omega, by omega, ih _ ⟨by omega, f1.lay (Or.inl rfl), ?_, ?_, ?_, ?_⟩⟩
        · rw [r1, List.filter_cons_of_pos p0]
          exact sdHas_put (l := fun i => u 12 i.toNat) fl.2 (by omega) s0 (fun p hp => by rw [q0, show ((p.toNat : Nat) : Int) = p by omega])
        · rw [r1, List.filter_cons_of_neg p1]
          exact sdHas_o (by omega) s1
        · rw [layC_6]; omega
        · rw [layC_o (by omega) (by omega) (by omega)]; omega
      · rw [e, show sdA 1 = 20 from rfl]
        have p0 : ¬ pS (u 30 3) (u 30 1) 0 (u 31 j.toNat) = true := by unfold pS; simp [e]
        have p1 : pS (u 30 3) (u 30 1) 1 (u 31 j.toNat) = true := by unfold pS; simp [e]
        have fl := full _ j j0 hj p1
        have q1 := s1.1
        refine ⟨by omega, o1, o2, by omega, by omega, by omega, ih _ ⟨by omega, f1.lay (Or.inr rfl), ?_, ?_, ?_, ?_⟩⟩
        · rw [r1, List.filter_cons_of_neg p0]
          exact sdHas_o (by omega) s0
        · rw [r1, List.filter_cons_of_pos p1]
          exact sdHas_put (l := fun i => u 12 i.toNat) fl.2 (by omega) s1 (fun p hp => by rw [q1, show ((p.toNat : Nat) : Int) = p by omega])
        · rw [layC_o (by omega) (by omega) (by omega)]; omega
        · rw [layC_6]; omega
  apply sX11_press_26 hR
  refine ⟨fun h => by omega, fun _ => ⟨by omega, by rw [show sdA 0 = 16 from rfl]; omega, by omega, ?_⟩⟩
  apply sX11_press_26 hR
  rw [show (0 : Int) + 1 = 1 from rfl, show sdA 0 = 16 from rfl, show sdA 1 = 20 from rfl]
  have e20 : (iu (iu (iu u 16 4 0) 16 5 (-1)) 16 6 (u 16 6 + 1)) 20 6 = u 20 6 := by rw [iu_o (by decide), iu_o (by decide), iu_o (by decide)]
  rw [e20]
  refine ⟨fun h => by omega, fun _ => ⟨by omega, by omega, by omega, ?_⟩⟩
  apply sX11_press_26 hR
  refine ⟨fun _ => ?_, fun h => by omega⟩
  refine i0 _ ?_ ⟨?_, ?_, fun p a b => ?_⟩ ⟨?_, ?_, fun p a b => ?_⟩ ?_ ?_
  · intro i j a b
    unfold iu
    rw [if_neg (by omega), if_neg (by omega), if_neg (by omega), if_neg (by omega), if_neg (by omega), if_neg (by omega)]
  · rfl
  · rfl
  · unfold lenL at b; omega
  · rfl
  · rfl
  · unfold lenL at b; omega
  · rfl
  · rfl

