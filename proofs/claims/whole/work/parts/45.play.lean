/-! ===== playing: the model ===== -/
set_option maxRecDepth 20000 in
theorem sX12_play_0 {G : ZG} {d : Nat} {iv : Nat → Nat → Int} {K : Option AV → AH → Prop} {x1 x2 : Int} (h : (okSide iv x1) ∧ ((stuckM iv x1 = -1) ∧ ((∀ (v1 : Nat → Nat → Int), (∀ i j, i ≠ 15 → ¬ (i = 0 ∧ j = 20) → v1 i j = iv i j) ∧ leastM iv v1 x1 → ((0 ≤ x1 ∧ x1 < (2 : Nat)) ∧ ((¬ (v1 10 ((x1).toNat)) = (-1) → ((0 ≤ x1 ∧ x1 < (2 : Nat)) ∧ ((okSide v1 x1) ∧ ((stuckM v1 x1 = -1) ∧ ((0 ≤ (v1 10 ((x1).toNat)) ∧ (v1 10 ((x1).toNat)) < 10) ∧ ((∀ k : Int, 0 ≤ k → k < 8 → 0 ≤ v1 6 (60 * (v1 10 ((x1).toNat)) + k).toNat ∧ v1 6 (60 * (v1 10 ((x1).toNat)) + k).toNat ≤ 40) ∧ ((∀ (v5 : Nat → Nat → Int), ((∀ i j, i ≠ 15 → ¬ (i = 0 ∧ j = 20) → v5 i j = v1 i j) ∧ leastM v1 v5 x1) → (Z G mX12_play (d + 4) 0 0 36 [vr (some 0), vi x1, vi x2, vi 0, vu, vu] [] (mkM (iu v5 0 38 (ringM v1 v5 x1 (v1 10 ((x1).toNat))))) K))))))))) ∧ ((v1 10 ((x1).toNat)) = (-1) → (Z G mX12_play (d + 4) 0 0 36 [vr (some 0), vi x1, vi x2, vi 0, vu, vu] [] (mkM (iu v1 0 38 0)) K)))))))) : Z G mX12_play (d + 4) 0 0 0 [vr (some 0), vi x1, vi x2, vu, vu, vu] [] (mkM iv) K := (Z_aload_n (dX12_play 0) rfl (Z_iload_n (dX12_play 1) rfl (Z_cVM (As := [vi x1]) (S := []) (dX12_play 2) lk_X12_270 sM0 (by decide) rfl rfl (Nat.le_of_ble_eq_true rfl) (Nat.le_of_ble_eq_true rfl) (M_spread  h.1 h.2.1 (fun v1 c2 => (Z_aload_n (dX12_play 3) rfl (Z_aload_n (dX12_play 4) rfl (Z_gRM (r := (some 10)) (dX12_play 5) lk_X12_48 sM0 rfl rfl (Z_iload_n (dX12_play 6) rfl (Z_ilM (x := (v1 10 ((x1).toNat))) (dX12_play 7) sM10 (h.2.2 v1 c2).1 rfl (Z_iconst (dX12_play 8) ⟨by decide, by decide⟩ (Z_icmp_ne (dX12_play 9) rfl (fun c3 => (Z_aload_n (dX12_play 12) rfl (Z_iload_n (dX12_play 13) rfl (Z_aload_n (dX12_play 14) rfl (Z_gRM (r := (some 10)) (dX12_play 15) lk_X12_48 sM0 rfl rfl (Z_iload_n (dX12_play 16) rfl (Z_ilM (x := (v1 10 ((x1).toNat))) (dX12_play 17) sM10 ((h.2.2 v1 c2).2.1 c3).1 rfl (Z_cVM (As := [vi x1, vi (v1 10 ((x1).toNat))]) (S := [vr (some 0)]) (dX12_play 18) lk_X12_292 sM0 (by decide) rfl rfl (Nat.le_of_ble_eq_true rfl) (Nat.le_of_ble_eq_true rfl) (M_ringOf  ((h.2.2 v1 c2).2.1 c3).2.1 ((h.2.2 v1 c2).2.1 c3).2.2.1 ((h.2.2 v1 c2).2.1 c3).2.2.2.1 ((h.2.2 v1 c2).2.1 c3).2.2.2.2.1 (fun v5 c6 => (Z_putIM (dX12_play 19) lk_X12_328 sM0 rfl (Or.inl rfl) (Z_iconst (dX12_play 20) ⟨by decide, by decide⟩ (Z_istore_n (dX12_play 21) (Nat.le_of_ble_eq_true rfl) rfl (((h.2.2 v1 c2).2.1 c3).2.2.2.2.2 v5 c6)))))))))))))) (fun c4 => (Z_iconst (dX12_play 10) ⟨by decide, by decide⟩ (Z_goto (dX12_play 11) rfl (Z_putIM (dX12_play 19) lk_X12_328 sM0 rfl (Or.inl rfl) (Z_iconst (dX12_play 20) ⟨by decide, by decide⟩ (Z_istore_n (dX12_play 21) (Nat.le_of_ble_eq_true rfl) rfl ((h.2.2 v1 c2).2.2 c4)))))))))))))))))))
set_option maxRecDepth 20000 in
theorem sX12_play_36 {G : ZG} {d : Nat} {iv : Nat → Nat → Int} {K : Option AV → AH → Prop} {x1 x2 x3 : Int} (h : (408 ≤ x3 → ((0 ≤ x1 ∧ x1 < (2 : Nat)) ∧ ((¬ (iv 7 ((x1).toNat)) = 0 → (Z G mX12_play (d + 4) 0 0 74 [vr (some 0), vi x1, vi x2, vi 0, vi 0, vu] [] (mkM iv) K)) ∧ ((iv 7 ((x1).toNat)) = 0 → (Z G mX12_play (d + 4) 0 0 74 [vr (some 0), vi x1, vi x2, vi (-1), vi 0, vu] [] (mkM iv) K))))) ∧ (x3 < 408 → ((0 ≤ x3 ∧ x3 < (408 : Nat)) ∧ ((-2147483648 ≤ (x3 + 1) ∧ (x3 + 1) ≤ 2147483647) ∧ (Z G mX12_play (d + 4) 0 0 36 [vr (some 0), vi x1, vi x2, vi (x3 + 1), vu, vu] [] (mkM (iu iv 27 ((x3).toNat) 0)) K))))) : Z G mX12_play (d + 4) 0 0 36 [vr (some 0), vi x1, vi x2, vi x3, vu, vu] [] (mkM iv) K := (Z_iload_n (dX12_play 22) rfl (Z_sipush (dX12_play 23) ⟨by decide, by decide⟩ (Z_icmp_ge (dX12_play 24) rfl (fun c1 => (Z_aload_n (dX12_play 32) rfl (Z_gRM (r := (some 7)) (dX12_play 33) lk_X12_39 sM0 rfl rfl (Z_iload_n (dX12_play 34) rfl (Z_ilM (x := (iv 7 ((x1).toNat))) (dX12_play 35) sM7 (h.1 c1).1 rfl (Z_if_ne (dX12_play 36) rfl (fun c3 => (Z_iconst (dX12_play 39) ⟨by decide, by decide⟩ (Z_istore_n (dX12_play 40) (Nat.le_of_ble_eq_true rfl) rfl (Z_iconst (dX12_play 41) ⟨by decide, by decide⟩ (Z_istore (dX12_play 42) (Nat.le_of_ble_eq_true rfl) rfl ((h.1 c1).2.1 c3)))))) (fun c4 => (Z_iconst (dX12_play 37) ⟨by decide, by decide⟩ (Z_goto (dX12_play 38) rfl (Z_istore_n (dX12_play 40) (Nat.le_of_ble_eq_true rfl) rfl (Z_iconst (dX12_play 41) ⟨by decide, by decide⟩ (Z_istore (dX12_play 42) (Nat.le_of_ble_eq_true rfl) rfl ((h.1 c1).2.2 c4))))))))))))) (fun c2 => (Z_aload_n (dX12_play 25) rfl (Z_gRM (r := (some 27)) (dX12_play 26) lk_X12_101 sM0 rfl rfl (Z_iload_n (dX12_play 27) rfl (Z_iconst (dX12_play 28) ⟨by decide, by decide⟩ (Z_zastM (dX12_play 29) sM27 (h.2 c2).1 (Or.inl rfl) (Z_iinc (dX12_play 30) rfl (Nat.le_of_ble_eq_true rfl) (h.2 c2).2.1 rfl (Z_goto (dX12_play 31) rfl (h.2 c2).2.2)))))))))))
set_option maxRecDepth 20000 in
theorem sX12_play_74 {G : ZG} {d : Nat} {iv : Nat → Nat → Int} {K : Option AV → AH → Prop} {x1 x2 x3 x4 : Int} (h : (x2 ≤ x4 → ((x3 = (-1) → (K (some (vi x3)) (mkM iv))) ∧ (¬ x3 = (-1) → ((0 ≤ x3 ∧ x3 < (408 : Nat)) ∧ (K (some (vi x3)) (mkM (iu iv 27 ((x3).toNat) 1))))))) ∧ (x4 < x2 → ((x3 = (-1) → (Z G mX12_play (d + 4) 0 0 92 [vr (some 0), vi x1, vi x2, vi x3, vi x4, vu] [] (mkM iv) K)) ∧ (¬ x3 = (-1) → ((0 ≤ x3 ∧ x3 < (408 : Nat)) ∧ (Z G mX12_play (d + 4) 0 0 92 [vr (some 0), vi x1, vi x2, vi x3, vi x4, vu] [] (mkM (iu iv 27 ((x3).toNat) 1)) K)))))) : Z G mX12_play (d + 4) 0 0 74 [vr (some 0), vi x1, vi x2, vi x3, vi x4, vu] [] (mkM iv) K := (Z_iload (dX12_play 43) rfl (Z_iload_n (dX12_play 44) rfl (Z_icmp_ge (dX12_play 45) rfl (fun c1 => (Z_iload_n (dX12_play 80) rfl (Z_iconst (dX12_play 81) ⟨by decide, by decide⟩ (Z_icmp_eq (dX12_play 82) rfl (fun c3 => (Z_iload_n (dX12_play 88) rfl (Z_ireturn (dX12_play 89) rfl ((h.1 c1).1 c3)))) (fun c4 => (Z_aload_n (dX12_play 83) rfl (Z_gRM (r := (some 27)) (dX12_play 84) lk_X12_101 sM0 rfl rfl (Z_iload_n (dX12_play 85) rfl (Z_iconst (dX12_play 86) ⟨by decide, by decide⟩ (Z_zastM (dX12_play 87) sM27 ((h.1 c1).2 c4).1 (Or.inr rfl) (Z_iload_n (dX12_play 88) rfl (Z_ireturn (dX12_play 89) rfl ((h.1 c1).2 c4).2)))))))))))) (fun c2 => (Z_iload_n (dX12_play 46) rfl (Z_iconst (dX12_play 47) ⟨by decide, by decide⟩ (Z_icmp_eq (dX12_play 48) rfl (fun c5 => ((h.2 c2).1 c5)) (fun c6 => (Z_aload_n (dX12_play 49) rfl (Z_gRM (r := (some 27)) (dX12_play 50) lk_X12_101 sM0 rfl rfl (Z_iload_n (dX12_play 51) rfl (Z_iconst (dX12_play 52) ⟨by decide, by decide⟩ (Z_zastM (dX12_play 53) sM27 ((h.2 c2).2 c6).1 (Or.inr rfl) ((h.2 c2).2 c6).2)))))))))))))
set_option maxRecDepth 20000 in
theorem sX12_play_92 {G : ZG} {d : Nat} {iv : Nat → Nat → Int} {K : Option AV → AH → Prop} {x1 x2 x3 x4 : Int} (h : (0 ≤ iv 0 37 ∧ iv 0 37 ≤ 16) ∧ ((x3 = (-1) → ((0 ≤ x1 ∧ x1 < 2) ∧ ((0 ≤ iv 7 (x1).toNat ∧ iv 7 (x1).toNat ≤ 400) ∧ ((-1 ≤ x3 ∧ x3 ≤ 500) ∧ ((-2147483648 ≤ (x4 + 1) ∧ (x4 + 1) ≤ 2147483647) ∧ (Z G mX12_play (d + 4) 0 0 74 [vr (some 0), vi x1, vi x2, vi (bh (iv 7 (x1).toNat) (iv 10 (x1).toNat) x3), vi (x4 + 1), vu] [] (mkM iv) K)))))) ∧ (¬ x3 = (-1) → (((knI (iv 25) (iv 0 37) x4) = (-1) → ((0 ≤ x1 ∧ x1 < 2) ∧ ((0 ≤ iv 7 (x1).toNat ∧ iv 7 (x1).toNat ≤ 400) ∧ ((-1 ≤ x3 ∧ x3 ≤ 500) ∧ ((-2147483648 ≤ (x4 + 1) ∧ (x4 + 1) ≤ 2147483647) ∧ (Z G mX12_play (d + 4) 0 0 74 [vr (some 0), vi x1, vi x2, vi (bh (iv 7 (x1).toNat) (iv 10 (x1).toNat) x3), vi (x4 + 1), vu] [] (mkM iv) K)))))) ∧ (¬ (knI (iv 25) (iv 0 37) x4) = (-1) → ((0 ≤ (knI (iv 25) (iv 0 37) x4) ∧ (knI (iv 25) (iv 0 37) x4) < (16 : Nat)) ∧ ((0 ≤ x1 ∧ x1 < 2) ∧ ((0 ≤ iv 7 (x1).toNat ∧ iv 7 (x1).toNat ≤ 400) ∧ ((∀ k : Int, 0 ≤ k → k < iv 7 (x1).toNat → 0 ≤ iv 15 (400 * x1 + k).toNat ∧ iv 15 (400 * x1 + k).toNat ≤ 200000) ∧ ((iv 10 (x1).toNat = -1 ∨ (0 ≤ iv 0 38 ∧ iv 0 38 ≤ 200000)) ∧ ((0 ≤ x3 ∧ x3 < alN (iv 7 (x1).toNat) (iv 10 (x1).toNat)) ∧ ((-400 ≤ (iv 26 ((knI (iv 25) (iv 0 37) x4).toNat)) ∧ (iv 26 ((knI (iv 25) (iv 0 37) x4).toNat)) ≤ 400) ∧ ((∀ (b5 : Int), (isF (iv 7 (x1).toNat) (iv 10 (x1).toNat) (iv 0 38) (fun k => iv 15 (400 * x1 + k).toNat) x3 (iv 26 ((knI (iv 25) (iv 0 37) x4).toNat)) b5) → ((0 ≤ x1 ∧ x1 < 2) ∧ ((0 ≤ iv 7 (x1).toNat ∧ iv 7 (x1).toNat ≤ 400) ∧ ((-1 ≤ b5 ∧ b5 ≤ 500) ∧ ((-2147483648 ≤ (x4 + 1) ∧ (x4 + 1) ≤ 2147483647) ∧ (Z G mX12_play (d + 4) 0 0 74 [vr (some 0), vi x1, vi x2, vi (bh (iv 7 (x1).toNat) (iv 10 (x1).toNat) b5), vi (x4 + 1), vu] [] (mkM iv) K))))))))))))))))))) : Z G mX12_play (d + 4) 0 0 92 [vr (some 0), vi x1, vi x2, vi x3, vi x4, vu] [] (mkM iv) K := (Z_aload_n (dX12_play 54) rfl (Z_iload (dX12_play 55) rfl (Z_cVM (As := [vi x4]) (S := []) (dX12_play 56) lk_X12_325 sM0 (by decide) rfl rfl (Nat.le_of_ble_eq_true rfl) (Nat.le_of_ble_eq_true rfl) (M_find  h.1 ((Z_istore (dX12_play 57) (Nat.le_of_ble_eq_true rfl) rfl (Z_aload_n (dX12_play 58) rfl (Z_iload_n (dX12_play 59) rfl (Z_iload_n (dX12_play 60) rfl (Z_iconst (dX12_play 61) ⟨by decide, by decide⟩ (Z_icmp_eq (dX12_play 62) rfl (fun c1 => (Z_iload_n (dX12_play 75) rfl (Z_cVM (As := [vi x1, vi x3]) (S := []) (dX12_play 76) lk_X12_340 sM0 (by decide) rfl rfl (Nat.le_of_ble_eq_true rfl) (Nat.le_of_ble_eq_true rfl) (M_behind  (h.2.1 c1).1 (h.2.1 c1).2.1 (h.2.1 c1).2.2.1 ((Z_istore_n (dX12_play 77) (Nat.le_of_ble_eq_true rfl) rfl (Z_iinc (dX12_play 78) rfl (Nat.le_of_ble_eq_true rfl) (h.2.1 c1).2.2.2.1 rfl (Z_goto (dX12_play 79) rfl (Z.fg (L' := [vr (some 0), vi x1, vi x2, vi (bh (iv 7 (x1).toNat) (iv 10 (x1).toNat) x3), vi (x4 + 1), vu]) (L := [vr (some 0), vi x1, vi x2, vi (bh (iv 7 (x1).toNat) (iv 10 (x1).toNat) x3), vi (x4 + 1), vi (knI (iv 25) (iv 0 37) x4)]) ⟨Or.inl rfl, ⟨Or.inl rfl, ⟨Or.inl rfl, ⟨Or.inl rfl, ⟨Or.inl rfl, ⟨Or.inr rfl, trivial⟩⟩⟩⟩⟩⟩ (h.2.1 c1).2.2.2.2))))))))) (fun c2 => (Z_iload (dX12_play 63) rfl (Z_iconst (dX12_play 64) ⟨by decide, by decide⟩ (Z_icmp_eq (dX12_play 65) rfl (fun c3 => (Z_iload_n (dX12_play 75) rfl (Z_cVM (As := [vi x1, vi x3]) (S := []) (dX12_play 76) lk_X12_340 sM0 (by decide) rfl rfl (Nat.le_of_ble_eq_true rfl) (Nat.le_of_ble_eq_true rfl) (M_behind  ((h.2.2 c2).1 c3).1 ((h.2.2 c2).1 c3).2.1 ((h.2.2 c2).1 c3).2.2.1 ((Z_istore_n (dX12_play 77) (Nat.le_of_ble_eq_true rfl) rfl (Z_iinc (dX12_play 78) rfl (Nat.le_of_ble_eq_true rfl) ((h.2.2 c2).1 c3).2.2.2.1 rfl (Z_goto (dX12_play 79) rfl (Z.fg (L' := [vr (some 0), vi x1, vi x2, vi (bh (iv 7 (x1).toNat) (iv 10 (x1).toNat) x3), vi (x4 + 1), vu]) (L := [vr (some 0), vi x1, vi x2, vi (bh (iv 7 (x1).toNat) (iv 10 (x1).toNat) x3), vi (x4 + 1), vi (knI (iv 25) (iv 0 37) x4)]) ⟨Or.inl rfl, ⟨Or.inl rfl, ⟨Or.inl rfl, ⟨Or.inl rfl, ⟨Or.inl rfl, ⟨Or.inr rfl, trivial⟩⟩⟩⟩⟩⟩ ((h.2.2 c2).1 c3).2.2.2.2))))))))) (fun c4 => (Z_aload_n (dX12_play 66) rfl (Z_iload_n (dX12_play 67) rfl (Z_iload_n (dX12_play 68) rfl (Z_aload_n (dX12_play 69) rfl (Z_gRM (r := (some 26)) (dX12_play 70) lk_X12_98 sM0 rfl rfl (Z_iload (dX12_play 71) rfl (Z_ilM (x := (iv 26 ((knI (iv 25) (iv 0 37) x4).toNat))) (dX12_play 72) sM26 ((h.2.2 c2).2 c4).1 rfl (Z_cVM (As := [vi x1, vi x3, vi (iv 26 ((knI (iv 25) (iv 0 37) x4).toNat))]) (S := [vi x1, vr (some 0)]) (dX12_play 73) lk_X12_337 sM0 (by decide) rfl rfl (Nat.le_of_ble_eq_true rfl) (Nat.le_of_ble_eq_true rfl) (M_fall  ((h.2.2 c2).2 c4).2.1 ((h.2.2 c2).2 c4).2.2.1 ((h.2.2 c2).2 c4).2.2.2.1 ((h.2.2 c2).2 c4).2.2.2.2.1 ((h.2.2 c2).2 c4).2.2.2.2.2.1 ((h.2.2 c2).2 c4).2.2.2.2.2.2.1 (fun b5 c6 => (Z_goto (dX12_play 74) rfl (Z_cVM (As := [vi x1, vi b5]) (S := []) (dX12_play 76) lk_X12_340 sM0 (by decide) rfl rfl (Nat.le_of_ble_eq_true rfl) (Nat.le_of_ble_eq_true rfl) (M_behind  (((h.2.2 c2).2 c4).2.2.2.2.2.2.2 b5 c6).1 (((h.2.2 c2).2 c4).2.2.2.2.2.2.2 b5 c6).2.1 (((h.2.2 c2).2 c4).2.2.2.2.2.2.2 b5 c6).2.2.1 ((Z_istore_n (dX12_play 77) (Nat.le_of_ble_eq_true rfl) rfl (Z_iinc (dX12_play 78) rfl (Nat.le_of_ble_eq_true rfl) (((h.2.2 c2).2 c4).2.2.2.2.2.2.2 b5 c6).2.2.2.1 rfl (Z_goto (dX12_play 79) rfl (Z.fg (L' := [vr (some 0), vi x1, vi x2, vi (bh (iv 7 (x1).toNat) (iv 10 (x1).toNat) b5), vi (x4 + 1), vu]) (L := [vr (some 0), vi x1, vi x2, vi (bh (iv 7 (x1).toNat) (iv 10 (x1).toNat) b5), vi (x4 + 1), vi (knI (iv 25) (iv 0 37) x4)]) ⟨Or.inl rfl, ⟨Or.inl rfl, ⟨Or.inl rfl, ⟨Or.inl rfl, ⟨Or.inl rfl, ⟨Or.inr rfl, trivial⟩⟩⟩⟩⟩⟩ (((h.2.2 c2).2 c4).2.2.2.2.2.2.2 b5 c6).2.2.2.2))))))))))))))))))))))))))))))))))
theorem plB_s {n lb rg : Int} {pl kn : Int → Int} {t : Nat} {j : Int} : plB n lb rg pl kn (t + 1) j ↔ (plB n lb rg pl kn t j ∨ pT n lb rg pl kn t = j) := by
  constructor
  · rintro ⟨s, hs, e⟩
    by_cases g : s = t
    · subst g; exact Or.inr e
    · exact Or.inl ⟨s, by omega, e⟩
  · rintro (⟨s, hs, e⟩ | e)
    · exact ⟨s, by omega, e⟩
    · exact ⟨t, by omega, e⟩
def kOk (f g : Nat → Int) (m : Int) : Prop := (0 ≤ m ∧ m ≤ 16) ∧ (∀ k : Int, 0 ≤ k → k < m → -400 ≤ g k.toNat ∧ g k.toNat ≤ 400)
theorem knI_r {f : Nat → Int} {m t : Int} (hm : 0 ≤ m) : knI f m t = -1 ∨ ((0 ≤ knI f m t ∧ knI f m t < m) ∧ f (knI f m t).toNat = t) := by
  unfold knI
  rcases ffirst_r (P := fun k => f k.toNat = t) m.toNat 0 (by omega) with e | ⟨a, b, c⟩
  · exact Or.inl e
  · exact Or.inr ⟨⟨a, by omega⟩, c⟩
theorem knv_n {f g : Nat → Int} {m t : Int} (h : kOk f g m) : knv f g m t = 1000 ↔ knI f m t = -1 := by
  unfold knv
  split
  · rename_i e; exact ⟨fun _ => e, fun _ => rfl⟩
  · rename_i e
    rcases knI_r (f := f) (t := t) h.1.1 with q | q
    · exact absurd q e
    · have := h.2 _ q.1.1 q.1.2
      exact ⟨fun z => by omega, fun z => absurd z e⟩
theorem pT_k {n lb rg : Int} {pl kn : Int → Int} {t : Nat} : pT n lb rg pl kn (t + 1) = bh n lb (if pT n lb rg pl kn t ≠ -1 ∧ kn t ≠ 1000 then fl n lb rg pl (pT n lb rg pl kn t) (kn t) else pT n lb rg pl kn t) := by
  conv => lhs; unfold pT
theorem M_playL {G : ZG} {d : Nat} {w : Nat → Nat → Int} {K : Option AV → AH → Prop} {x1 x2 : Int} (h1 : 0 ≤ x1 ∧ x1 < 2) (hn : 0 ≤ w 7 x1.toNat ∧ w 7 x1.toNat ≤ 400) (hp : ∀ k : Int, 0 ≤ k → k < w 7 x1.toNat → 0 ≤ w 15 (400 * x1 + k).toNat ∧ w 15 (400 * x1 + k).toNat ≤ 200000) (hr : w 10 x1.toNat = -1 ∨ (0 ≤ w 0 38 ∧ w 0 38 ≤ 200000)) (hk : kOk (w 25) (w 26) (w 0 37)) (h2 : 0 ≤ x2 ∧ x2 ≤ 20000) (k : ∀ v : Nat → Nat → Int, (∀ i, i ≠ 27 → v i = w i) → (∀ j : Int, 0 ≤ j → j < 408 → v 27 j.toNat = c01 (plB (w 7 x1.toNat) (w 10 x1.toNat) (w 0 38) (fun k => w 15 (400 * x1 + k).toNat) (knv (w 25) (w 26) (w 0 37)) (x2.toNat + 1) j)) → K (some (vi (pT (w 7 x1.toNat) (w 10 x1.toNat) (w 0 38) (fun k => w 15 (400 * x1 + k).toNat) (knv (w 25) (w 26) (w 0 37)) x2.toNat))) (mkM v)) : Z G mX12_play (d + 4) 0 0 36 [vr (some 0), vi x1, vi x2, vi 0, vu, vu] [] (mkM w) K := by
  refine lp_up (P := fun j v => Z G mX12_play (d + 4) 0 0 36 [vr (some 0), vi x1, vi x2, vi j, vu, vu] [] (mkM v) K) 408 (fun j v => 0 ≤ j ∧ (∀ i, i ≠ 27 → v i = w i) ∧ ∀ i : Int, 0 ≤ i → i < j → v 27 i.toNat = 0) ?_ ?_ 0 w (by omega) ⟨by omega, fun _ _ => rfl, fun i a b => by omega⟩
  rotate_left
  · rintro j v hj ⟨j0, f, z⟩ ih
    apply sX12_play_36
    refine ⟨fun q => by omega, fun _ => ⟨by omega, by omega, ih _ ⟨by omega, fun i a => ?_, fun i a b => ?_⟩⟩⟩
    · rw [iu_row a]; exact f i a
    · by_cases e : i = j
      · subst e; exact iu_eq
      · rw [iu_k (by omega)]; exact z i a (by omega)
  · rintro v ⟨-, f, z⟩
    have ar : alN (w 7 x1.toNat) (w 10 x1.toNat) ≤ 408 := by unfold alN; split <;> omega
    have p0 := pT_r (lb := w 10 x1.toNat) (rg := w 0 38) (pl := fun k => w 15 (400 * x1 + k).toNat) (kn := knv (w 25) (w 26) (w 0 37)) hn.1
    have pk := fun t => pT_k (n := w 7 x1.toNat) (lb := w 10 x1.toNat) (rg := w 0 38) (pl := fun k => w 15 (400 * x1 + k).toNat) (kn := knv (w 25) (w 26) (w 0 37)) (t := t)
    have ps := fun t j => plB_s (n := w 7 x1.toNat) (lb := w 10 x1.toNat) (rg := w 0 38) (pl := fun k => w 15 (400 * x1 + k).toNat) (kn := knv (w 25) (w 26) (w 0 37)) (t := t) (j := j)
    have go : Z G mX12_play (d + 4) 0 0 74 [vr (some 0), vi x1, vi x2, vi (pT (w 7 x1.toNat) (w 10 x1.toNat) (w 0 38) (fun k => w 15 (400 * x1 + k).toNat) (knv (w 25) (w 26) (w 0 37)) (0 : Int).toNat), vi 0, vu] [] (mkM v) K := by
      refine lp_up (P := fun t u => Z G mX12_play (d + 4) 0 0 74 [vr (some 0), vi x1, vi x2, vi (pT (w 7 x1.toNat) (w 10 x1.toNat) (w 0 38) (fun k => w 15 (400 * x1 + k).toNat) (knv (w 25) (w 26) (w 0 37)) t.toNat), vi t, vu] [] (mkM u) K) x2 (fun t u => 0 ≤ t ∧ (∀ i, i ≠ 27 → u i = w i) ∧ ∀ j : Int, 0 ≤ j → j < 408 → u 27 j.toNat = c01 (plB (w 7 x1.toNat) (w 10 x1.toNat) (w 0 38) (fun k => w 15 (400 * x1 + k).toNat) (knv (w 25) (w 26) (w 0 37)) t.toNat j)) ?_ ?_ 0 v (by omega) ⟨by omega, f, fun j a b => by rw [z j a b, c01_f]; rintro ⟨s, hs, -⟩; exact absurd hs (by simp)⟩
      · rintro u ⟨-, f, m⟩
        have pr := p0 x2.toNat
        have pss := ps x2.toNat
        generalize hP : pT (w 7 x1.toNat) (w 10 x1.toNat) (w 0 38) (fun k => w 15 (400 * x1 + k).toNat) (knv (w 25) (w 26) (w 0 37)) x2.toNat = p at *
        apply sX12_play_74
        refine ⟨fun _ => ⟨fun e => k u f (fun j a b => ?_), fun n => ⟨by omega, k _ (fun i a => ?_) (fun j a b => ?_)⟩⟩, fun q => by omega⟩
        · rw [m j a b]
          exact c01_c ⟨fun q => (pss j).mpr (Or.inl q), fun q => ((pss j).mp q).resolve_right (by omega)⟩
        · rw [iu_row a]; exact f i a
        · by_cases e : j = p
          · subst e
            rw [iu_eq, c01_t ((pss _).mpr (Or.inr rfl))]
          · rw [iu_k (by omega), m j a b]
            exact c01_c ⟨fun q => (pss j).mpr (Or.inl q), fun q => ((pss j).mp q).resolve_right (by omega)⟩
      · rintro t u ht ⟨t0, f, m⟩ ih
        rw [show (t + 1).toNat = t.toNat + 1 by omega] at ih
        have pr := p0 t.toNat
        have pss := ps t.toNat
        have pkk := pk t.toNat
        rw [show ((t.toNat : Nat) : Int) = t by omega] at pkk
        generalize hP : pT (w 7 x1.toNat) (w 10 x1.toNat) (w 0 38) (fun k => w 15 (400 * x1 + k).toNat) (knv (w 25) (w 26) (w 0 37)) t.toNat = p at *
        have nx : ∀ u' : Nat → Nat → Int, (∀ i, i ≠ 27 → u' i = w i) → (∀ j : Int, 0 ≤ j → j < 408 → u' 27 j.toNat = c01 (plB (w 7 x1.toNat) (w 10 x1.toNat) (w 0 38) (fun k => w 15 (400 * x1 + k).toNat) (knv (w 25) (w 26) (w 0 37)) (t.toNat + 1) j)) → Z G mX12_play (d + 4) 0 0 92 [vr (some 0), vi x1, vi x2, vi p, vi t, vu] [] (mkM u') K := by
          intro u' f' m'
          have ih' := ih u' ⟨by omega, f', m'⟩
          rw [pkk] at ih'
          apply sX12_play_92
          rw [f' 0 (by decide), f' 7 (by decide), f' 10 (by decide), f' 15 (by decide), f' 25 (by decide), f' 26 (by decide)]
          refine ⟨hk.1, fun e => ⟨h1, hn, by omega, by omega, ?_⟩, fun e => ⟨fun q => ⟨h1, hn, by omega, by omega, ?_⟩, fun q => ?_⟩⟩
          · rw [if_neg (fun c => c.1 e)] at ih'; exact ih'
          · rw [if_neg (fun c => c.2 ((knv_n hk).mpr q))] at ih'; exact ih'
          · rw [if_pos ⟨e, fun c => q ((knv_n hk).mp c)⟩] at ih'
            have kr := (knI_r (f := w 25) (t := t) hk.1.1).resolve_left q
            have ek : knv (w 25) (w 26) (w 0 37) t = w 26 (knI (w 25) (w 0 37) t).toNat := by unfold knv; rw [if_neg q]
            rw [ek] at ih'
            refine ⟨by have := hk.1; omega, h1, hn, hp, hr, pr.resolve_left e, hk.2 _ kr.1.1 kr.1.2, fun b hb => ⟨h1, hn, by have := hb.1; omega, by omega, ?_⟩⟩
            rw [fl_is hb] at ih'
            exact ih'
        apply sX12_play_74
        refine ⟨fun q => by omega, fun _ => ⟨fun e => nx u f (fun j a b => ?_), fun n => ⟨by omega, nx _ (fun i a => ?_) (fun j a b => ?_)⟩⟩⟩
        · rw [m j a b]
          exact c01_c ⟨fun q => (pss j).mpr (Or.inl q), fun q => ((pss j).mp q).resolve_right (by omega)⟩
        · rw [iu_row a]; exact f i a
        · by_cases e : j = p
          · subst e
            rw [iu_eq, c01_t ((pss _).mpr (Or.inr rfl))]
          · rw [iu_k (by omega), m j a b]
            exact c01_c ⟨fun q => (pss j).mpr (Or.inl q), fun q => ((pss j).mp q).resolve_right (by omega)⟩
    apply sX12_play_36
    rw [f 7 (by decide)]
    refine ⟨fun _ => ⟨by omega, fun n => ?_, fun n => ?_⟩, fun q => by omega⟩
    · show Z G mX12_play (d + 4) 0 0 74 [vr (some 0), vi x1, vi x2, vi 0, vi 0, vu] [] (mkM v) K
      have : pT (w 7 x1.toNat) (w 10 x1.toNat) (w 0 38) (fun k => w 15 (400 * x1 + k).toNat) (knv (w 25) (w 26) (w 0 37)) (0 : Int).toNat = 0 := by
        show (if w 7 x1.toNat = 0 then (-1 : Int) else 0) = 0
        rw [if_neg n]
      rw [this] at go; exact go
    · have : pT (w 7 x1.toNat) (w 10 x1.toNat) (w 0 38) (fun k => w 15 (400 * x1 + k).toNat) (knv (w 25) (w 26) (w 0 37)) (0 : Int).toNat = -1 := by
        show (if w 7 x1.toNat = 0 then (-1 : Int) else 0) = -1
        rw [if_pos n]
      rw [this] at go; exact go

