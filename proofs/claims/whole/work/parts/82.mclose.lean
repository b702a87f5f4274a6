/-! ===== reading in step: the end of a block ===== -/
set_option maxRecDepth 20000 in
theorem sX12_closes_0 {G : ZG} {d : Nat} {iv : Nat → Nat → Int} {K : Option AV → AH → Prop} (h : (-2147483648 ≤ ((iv 0 74) - 1) ∧ ((iv 0 74) - 1) ≤ 2147483647) ∧ ((0 ≤ ((iv 0 74) - 1) ∧ ((iv 0 74) - 1) < (8 : Nat)) ∧ ((0 ≤ iv 0 47 ∧ iv 0 47 ≤ iv 0 44) ∧ ((iv 0 44 ≤ 600) ∧ ((bOK (iv 29)) ∧ (Z G mX12_closes (d + 6) 0 0 16 [vr (some 0), vi (iv 45 (((iv 0 74) - 1).toNat))] [] (mkM (nx iv)) K)))))) : Z G mX12_closes (d + 6) 0 0 0 [vr (some 0), vu] [] (mkM iv) K := (Z_aload_n (dX12_closes 0) rfl (Z_gRM (r := (some 45)) (dX12_closes 1) lk_X12_162 sM0 rfl rfl (Z_aload_n (dX12_closes 2) rfl (Z_gIM (x := (iv 0 74)) (dX12_closes 3) lk_X12_434 sM0 (Or.inl rfl) rfl (Z_iconst (dX12_closes 4) ⟨by decide, by decide⟩ (Z_isub (dX12_closes 5) h.1 (Z_ilM (x := (iv 45 (((iv 0 74) - 1).toNat))) (dX12_closes 6) sM45 h.2.1 rfl (Z_istore_n (dX12_closes 7) (Nat.le_of_ble_eq_true rfl) rfl (Z_aload_n (dX12_closes 8) rfl (Z_cVM (As := []) (S := []) (dX12_closes 9) lk_X12_404 sM0 (by decide) rfl rfl (Nat.le_of_ble_eq_true rfl) (Nat.le_of_ble_eq_true rfl) (M_next  h.2.2.1 h.2.2.2.1 h.2.2.2.2.1 (h.2.2.2.2.2))))))))))))
set_option maxRecDepth 20000 in
theorem sX12_closes_16 {G : ZG} {d : Nat} {iv : Nat → Nat → Int} {K : Option AV → AH → Prop} {x1 : Int} (h : (-2147483648 ≤ ((iv 0 74) - 1) ∧ ((iv 0 74) - 1) ≤ 2147483647) ∧ ((0 ≤ ((iv 0 74) - 1) ∧ ((iv 0 74) - 1) < (8 : Nat)) ∧ ((¬ (iv 46 (((iv 0 74) - 1).toNat)) = 0 → (Z G mX12_closes (d + 6) 0 0 45 [vr (some 0), vi x1] [] (mkM iv) K)) ∧ ((iv 46 (((iv 0 74) - 1).toNat)) = 0 → ((-2147483648 ≤ (12 * x1) ∧ (12 * x1) ≤ 2147483647) ∧ ((-2147483648 ≤ ((12 * x1) + 0) ∧ ((12 * x1) + 0) ≤ 2147483647) ∧ ((0 ≤ ((12 * x1) + 0) ∧ ((12 * x1) + 0) < (720 : Nat)) ∧ ((¬ (iv 42 (((12 * x1) + 0).toNat)) = 5 → (Z G mX12_closes (d + 6) 0 0 112 [vr (some 0), vi x1] [] (mkM iv) K)) ∧ ((iv 42 (((12 * x1) + 0).toNat)) = 5 → (Z G mX12_closes (d + 6) 0 0 45 [vr (some 0), vi x1] [] (mkM iv) K)))))))))) : Z G mX12_closes (d + 6) 0 0 16 [vr (some 0), vi x1] [] (mkM iv) K := (Z_aload_n (dX12_closes 10) rfl (Z_gRM (r := (some 46)) (dX12_closes 11) lk_X12_165 sM0 rfl rfl (Z_aload_n (dX12_closes 12) rfl (Z_gIM (x := (iv 0 74)) (dX12_closes 13) lk_X12_434 sM0 (Or.inl rfl) rfl (Z_iconst (dX12_closes 14) ⟨by decide, by decide⟩ (Z_isub (dX12_closes 15) h.1 (Z_zlM (x := (iv 46 (((iv 0 74) - 1).toNat))) (dX12_closes 16) sM46 h.2.1 rfl (Z_if_ne (dX12_closes 17) rfl (fun c1 => (h.2.2.1 c1)) (fun c2 => (Z_aload_n (dX12_closes 18) rfl (Z_gRM (r := (some 42)) (dX12_closes 19) lk_X12_153 sM0 rfl rfl (Z_bipush (dX12_closes 20) ⟨by decide, by decide⟩ (Z_iload_n (dX12_closes 21) rfl (Z_imul (dX12_closes 22) (h.2.2.2 c2).1 (Z_iconst (dX12_closes 23) ⟨by decide, by decide⟩ (Z_iadd (dX12_closes 24) (h.2.2.2 c2).2.1 (Z_ilM (x := (iv 42 (((12 * x1) + 0).toNat))) (dX12_closes 25) sM42 (h.2.2.2 c2).2.2.1 rfl (Z_iconst (dX12_closes 26) ⟨by decide, by decide⟩ (Z_icmp_ne (dX12_closes 27) rfl (fun c3 => ((h.2.2.2 c2).2.2.2.1 c3)) (fun c4 => ((h.2.2.2 c2).2.2.2.2 c4)))))))))))))))))))))
set_option maxRecDepth 20000 in
theorem sX12_closes_45 {G : ZG} {d : Nat} {iv : Nat → Nat → Int} {K : Option AV → AH → Prop} {x1 : Int} (h : (-2147483648 ≤ ((iv 0 74) - 1) ∧ ((iv 0 74) - 1) ≤ 2147483647) ∧ ((0 ≤ ((iv 0 74) - 1) ∧ ((iv 0 74) - 1) < (8 : Nat)) ∧ (((iv 46 (((iv 0 74) - 1).toNat)) = 0 → ((0 ≤ x1 ∧ x1 < 60) ∧ (((0 : Int) ≤ 7 ∧ (7 : Int) < 12) ∧ (Z G mX12_closes (d + 6) 0 0 75 [vr (some 0), vi x1] [] (mkM (iu iv 42 (12 * x1 + 7).toNat (iv 0 70))) K)))) ∧ (¬ (iv 46 (((iv 0 74) - 1).toNat)) = 0 → ((0 ≤ x1 ∧ x1 < 60) ∧ (((0 : Int) ≤ 8 ∧ (8 : Int) < 12) ∧ (Z G mX12_closes (d + 6) 0 0 75 [vr (some 0), vi x1] [] (mkM (iu iv 42 (12 * x1 + 8).toNat (iv 0 70))) K))))))) : Z G mX12_closes (d + 6) 0 0 45 [vr (some 0), vi x1] [] (mkM iv) K := (Z_aload_n (dX12_closes 28) rfl (Z_iload_n (dX12_closes 29) rfl (Z_aload_n (dX12_closes 30) rfl (Z_gRM (r := (some 46)) (dX12_closes 31) lk_X12_165 sM0 rfl rfl (Z_aload_n (dX12_closes 32) rfl (Z_gIM (x := (iv 0 74)) (dX12_closes 33) lk_X12_434 sM0 (Or.inl rfl) rfl (Z_iconst (dX12_closes 34) ⟨by decide, by decide⟩ (Z_isub (dX12_closes 35) h.1 (Z_zlM (x := (iv 46 (((iv 0 74) - 1).toNat))) (dX12_closes 36) sM46 h.2.1 rfl (Z_if_eq (dX12_closes 37) rfl (fun c1 => (Z_bipush (dX12_closes 40) ⟨by decide, by decide⟩ (Z_aload_n (dX12_closes 41) rfl (Z_gIM (x := (iv 0 70)) (dX12_closes 42) lk_X12_431 sM0 (Or.inl rfl) rfl (Z_cVM (As := [vi x1, vi 7, vi (iv 0 70)]) (S := []) (dX12_closes 43) lk_X12_437 sM0 (by decide) rfl rfl (Nat.le_of_ble_eq_true rfl) (Nat.le_of_ble_eq_true rfl) (M_set  (h.2.2.1 c1).1 (h.2.2.1 c1).2.1 ((h.2.2.1 c1).2.2))))))) (fun c2 => (Z_bipush (dX12_closes 38) ⟨by decide, by decide⟩ (Z_goto (dX12_closes 39) rfl (Z_aload_n (dX12_closes 41) rfl (Z_gIM (x := (iv 0 70)) (dX12_closes 42) lk_X12_431 sM0 (Or.inl rfl) rfl (Z_cVM (As := [vi x1, vi 8, vi (iv 0 70)]) (S := []) (dX12_closes 43) lk_X12_437 sM0 (by decide) rfl rfl (Nat.le_of_ble_eq_true rfl) (Nat.le_of_ble_eq_true rfl) (M_set  (h.2.2.2 c2).1 (h.2.2.2 c2).2.1 ((h.2.2.2 c2).2.2))))))))))))))))))
set_option maxRecDepth 20000 in
theorem sX12_closes_75 {G : ZG} {d : Nat} {iv : Nat → Nat → Int} {K : Option AV → AH → Prop} {x1 : Int} (h : (-2147483648 ≤ ((iv 0 74) - 1) ∧ ((iv 0 74) - 1) ≤ 2147483647) ∧ ((0 ≤ ((iv 0 74) - 1) ∧ ((iv 0 74) - 1) < (8 : Nat)) ∧ ((¬ (iv 46 (((iv 0 74) - 1).toNat)) = 0 → (Z G mX12_closes (d + 6) 0 0 100 [vr (some 0), vu] [] (mkM iv) K)) ∧ ((iv 46 (((iv 0 74) - 1).toNat)) = 0 → ((0 ≤ x1 ∧ x1 < 60) ∧ (((0 : Int) ≤ 8 ∧ (8 : Int) < 12) ∧ (Z G mX12_closes (d + 6) 0 0 100 [vr (some 0), vu] [] (mkM (iu iv 42 (12 * x1 + 8).toNat (iv 0 70))) K))))))) : Z G mX12_closes (d + 6) 0 0 75 [vr (some 0), vi x1] [] (mkM iv) K := (Z_aload_n (dX12_closes 44) rfl (Z_gRM (r := (some 46)) (dX12_closes 45) lk_X12_165 sM0 rfl rfl (Z_aload_n (dX12_closes 46) rfl (Z_gIM (x := (iv 0 74)) (dX12_closes 47) lk_X12_434 sM0 (Or.inl rfl) rfl (Z_iconst (dX12_closes 48) ⟨by decide, by decide⟩ (Z_isub (dX12_closes 49) h.1 (Z_zlM (x := (iv 46 (((iv 0 74) - 1).toNat))) (dX12_closes 50) sM46 h.2.1 rfl (Z_if_ne (dX12_closes 51) rfl (fun c1 => (Z.fg (L' := [vr (some 0), vu]) (L := [vr (some 0), vi x1]) ⟨Or.inl rfl, ⟨Or.inr rfl, trivial⟩⟩ (h.2.2.1 c1))) (fun c2 => (Z_aload_n (dX12_closes 52) rfl (Z_iload_n (dX12_closes 53) rfl (Z_bipush (dX12_closes 54) ⟨by decide, by decide⟩ (Z_aload_n (dX12_closes 55) rfl (Z_gIM (x := (iv 0 70)) (dX12_closes 56) lk_X12_431 sM0 (Or.inl rfl) rfl (Z_cVM (As := [vi x1, vi 8, vi (iv 0 70)]) (S := []) (dX12_closes 57) lk_X12_437 sM0 (by decide) rfl rfl (Nat.le_of_ble_eq_true rfl) (Nat.le_of_ble_eq_true rfl) (M_set  (h.2.2.2 c2).1 (h.2.2.2 c2).2.1 ((Z.fg (L' := [vr (some 0), vu]) (L := [vr (some 0), vi x1]) ⟨Or.inl rfl, ⟨Or.inr rfl, trivial⟩⟩ (h.2.2.2 c2).2.2))))))))))))))))))
set_option maxRecDepth 20000 in
theorem sX12_closes_100 {G : ZG} {d : Nat} {iv : Nat → Nat → Int} {K : Option AV → AH → Prop} (h : (-2147483648 ≤ ((iv 0 74) - 1) ∧ ((iv 0 74) - 1) ≤ 2147483647) ∧ (K (some (vi 1)) (mkM (iu iv 0 74 ((iv 0 74) - 1))))) : Z G mX12_closes (d + 6) 0 0 100 [vr (some 0), vu] [] (mkM iv) K := (Z_aload_n (dX12_closes 58) rfl (Z_dup (dX12_closes 59) rfl (Z_gIM (x := (iv 0 74)) (dX12_closes 60) lk_X12_434 sM0 (Or.inl rfl) rfl (Z_iconst (dX12_closes 61) ⟨by decide, by decide⟩ (Z_isub (dX12_closes 62) h.1 (Z_putIM (dX12_closes 63) lk_X12_434 sM0 rfl (Or.inl rfl) (Z_iconst (dX12_closes 64) ⟨by decide, by decide⟩ (Z_zreturn (dX12_closes 65) rfl (Or.inr rfl) h.2))))))))
set_option maxRecDepth 20000 in
theorem sX12_closes_112 {G : ZG} {d : Nat} {iv : Nat → Nat → Int} {K : Option AV → AH → Prop} {x1 : Int} (h : (0 ≤ x1 ∧ x1 < 60) ∧ (((0 : Int) ≤ 7 ∧ (7 : Int) < 12) ∧ ((0 ≤ x1 ∧ x1 < 60) ∧ (((0 : Int) ≤ 8 ∧ (8 : Int) < 12) ∧ (Z G mX12_closes (d + 6) 0 0 134 [vr (some 0), vu] [] (mkM (iu (iu iv 42 (12 * x1 + 7).toNat (iv 0 70)) 42 (12 * x1 + 8).toNat ((iu iv 42 (12 * x1 + 7).toNat (iv 0 70)) 0 70))) K))))) : Z G mX12_closes (d + 6) 0 0 112 [vr (some 0), vi x1] [] (mkM iv) K := (Z_aload_n (dX12_closes 66) rfl (Z_iload_n (dX12_closes 67) rfl (Z_bipush (dX12_closes 68) ⟨by decide, by decide⟩ (Z_aload_n (dX12_closes 69) rfl (Z_gIM (x := (iv 0 70)) (dX12_closes 70) lk_X12_431 sM0 (Or.inl rfl) rfl (Z_cVM (As := [vi x1, vi 7, vi (iv 0 70)]) (S := []) (dX12_closes 71) lk_X12_437 sM0 (by decide) rfl rfl (Nat.le_of_ble_eq_true rfl) (Nat.le_of_ble_eq_true rfl) (M_set  h.1 h.2.1 ((Z_aload_n (dX12_closes 72) rfl (Z_iload_n (dX12_closes 73) rfl (Z_bipush (dX12_closes 74) ⟨by decide, by decide⟩ (Z_aload_n (dX12_closes 75) rfl (Z_gIM (x := ((iu iv 42 (12 * x1 + 7).toNat (iv 0 70)) 0 70)) (dX12_closes 76) lk_X12_431 sM0 (Or.inl rfl) rfl (Z_cVM (As := [vi x1, vi 8, vi ((iu iv 42 (12 * x1 + 7).toNat (iv 0 70)) 0 70)]) (S := []) (dX12_closes 77) lk_X12_437 sM0 (by decide) rfl rfl (Nat.le_of_ble_eq_true rfl) (Nat.le_of_ble_eq_true rfl) (M_set  h.2.2.1 h.2.2.2.1 ((Z.fg (L' := [vr (some 0), vu]) (L := [vr (some 0), vi x1]) ⟨Or.inl rfl, ⟨Or.inr rfl, trivial⟩⟩ h.2.2.2.2)))))))))))))))))
set_option maxRecDepth 20000 in
theorem sX12_closes_134 {G : ZG} {d : Nat} {iv : Nat → Nat → Int} {K : Option AV → AH → Prop} (h : (TxM iv) ∧ ((wM iv = 7 → ((0 ≤ iv 0 47 ∧ iv 0 47 ≤ iv 0 44) ∧ ((iv 0 44 ≤ 600) ∧ ((bOK (iv 29)) ∧ (Z G mX12_closes (d + 6) 0 0 160 [vr (some 0), vu] [] (mkM (nx iv)) K))))) ∧ (¬ (wM iv = 7) → ((-2147483648 ≤ ((iv 0 74) - 1) ∧ ((iv 0 74) - 1) ≤ 2147483647) ∧ (K (some (vi 1)) (mkM (iu iv 0 74 ((iv 0 74) - 1)))))))) : Z G mX12_closes (d + 6) 0 0 134 [vr (some 0), vu] [] (mkM iv) K := (Z_aload_n (dX12_closes 78) rfl (Z_ldcSw (dX12_closes 79) lk_X12_465 (Z_cVM (As := [vr (some (1000000 + 7))]) (S := []) (dX12_closes 80) lk_X12_412 sM0 (by decide) rfl rfl (Nat.le_of_ble_eq_true rfl) (Nat.le_of_ble_eq_true rfl) (M_isWord rfl h.1 ((Z_if_ne (dX12_closes 81) rfl (fun c1 => (Z_aload_n (dX12_closes 90) rfl (Z_cVM (As := []) (S := []) (dX12_closes 91) lk_X12_404 sM0 (by decide) rfl rfl (Nat.le_of_ble_eq_true rfl) (Nat.le_of_ble_eq_true rfl) (M_next  (h.2.1 (b01_n.mp c1)).1 (h.2.1 (b01_n.mp c1)).2.1 (h.2.1 (b01_n.mp c1)).2.2.1 ((h.2.1 (b01_n.mp c1)).2.2.2))))) (fun c2 => (Z_aload_n (dX12_closes 82) rfl (Z_dup (dX12_closes 83) rfl (Z_gIM (x := (iv 0 74)) (dX12_closes 84) lk_X12_434 sM0 (Or.inl rfl) rfl (Z_iconst (dX12_closes 85) ⟨by decide, by decide⟩ (Z_isub (dX12_closes 86) (h.2.2 (b01_0.mp c2)).1 (Z_putIM (dX12_closes 87) lk_X12_434 sM0 rfl (Or.inl rfl) (Z_iconst (dX12_closes 88) ⟨by decide, by decide⟩ (Z_zreturn (dX12_closes 89) rfl (Or.inr rfl) (h.2.2 (b01_0.mp c2)).2)))))))))))))))
set_option maxRecDepth 20000 in
theorem sX12_closes_160 {G : ZG} {d : Nat} {iv : Nat → Nat → Int} {K : Option AV → AH → Prop} (h : (-2147483648 ≤ ((iv 0 74) - 1) ∧ ((iv 0 74) - 1) ≤ 2147483647) ∧ ((0 ≤ ((iv 0 74) - 1) ∧ ((iv 0 74) - 1) < (8 : Nat)) ∧ ((TxM (iu iv 46 (((iv 0 74) - 1).toNat) 1)) ∧ ((∀ (b1 : Int), ∀ (v2 : Nat → Nat → Int), (wantR 123 (iu iv 46 (((iv 0 74) - 1).toNat) 1) b1 v2) → ((b1 = 0 ∨ b1 = 1) ∧ K (some (vi b1)) (mkM v2))))))) : Z G mX12_closes (d + 6) 0 0 160 [vr (some 0), vu] [] (mkM iv) K := (Z_aload_n (dX12_closes 92) rfl (Z_gRM (r := (some 46)) (dX12_closes 93) lk_X12_165 sM0 rfl rfl (Z_aload_n (dX12_closes 94) rfl (Z_gIM (x := (iv 0 74)) (dX12_closes 95) lk_X12_434 sM0 (Or.inl rfl) rfl (Z_iconst (dX12_closes 96) ⟨by decide, by decide⟩ (Z_isub (dX12_closes 97) h.1 (Z_iconst (dX12_closes 98) ⟨by decide, by decide⟩ (Z_zastM (dX12_closes 99) sM46 h.2.1 (Or.inr rfl) (Z_aload_n (dX12_closes 100) rfl (Z_bipush (dX12_closes 101) ⟨by decide, by decide⟩ (Z_cVM (As := [vi 123]) (S := []) (dX12_closes 102) lk_X12_452 sM0 (by decide) rfl rfl (Nat.le_of_ble_eq_true rfl) (Nat.le_of_ble_eq_true rfl) (M_want  h.2.2.1 (fun b1 v2 c3 => (Z_zreturn (dX12_closes 103) rfl (h.2.2.2 b1 v2 c3).1 (h.2.2.2 b1 v2 c3).2))))))))))))))
def cl2 (i : Int) (m : Nat → Nat → Int) : Nat → Nat → Int := iu (iu m 42 (12 * i + 7).toNat (m 0 70)) 42 (12 * i + 8).toNat (m 0 70)
noncomputable def closeV (m : Nat → Nat → Int) : Int × (Nat → Nat → Int) :=
  if ¬ m 46 (m 0 74 - 1).toNat = 0 then (1, iu (iu (nx m) 42 (12 * m 45 (m 0 74 - 1).toNat + 8).toNat (m 0 70)) 0 74 (m 0 74 - 1))
  else if m 42 (12 * m 45 (m 0 74 - 1).toNat + 0).toNat = 5 then (1, iu (cl2 (m 45 (m 0 74 - 1).toNat) (nx m)) 0 74 (m 0 74 - 1))
  else if ¬ wM (nx m) = 7 then (1, iu (cl2 (m 45 (m 0 74 - 1).toNat) (nx m)) 0 74 (m 0 74 - 1))
  else if nx (cl2 (m 45 (m 0 74 - 1).toNat) (nx m)) 0 45 = 4 ∧ nx (cl2 (m 45 (m 0 74 - 1).toNat) (nx m)) 0 48 = 123 then (1, nx (iu (nx (cl2 (m 45 (m 0 74 - 1).toNat) (nx m))) 46 (m 0 74 - 1).toNat 1))
  else (0, mfail 2 (iu (nx (cl2 (m 45 (m 0 74 - 1).toNat) (nx m))) 46 (m 0 74 - 1).toNat 1))
theorem cl2_f {i : Int} {m : Nat → Nat → Int} : ∀ a, a ≠ 42 → cl2 i m a = m a := fun a h => by unfold cl2; rw [iu_row h, iu_row h]
theorem cl2_w {i : Int} {m : Nat → Nat → Int} : wM (cl2 i m) = wM m := by unfold wM; rw [cl2_f 29 (by decide), cl2_f 0 (by decide)]
theorem M_closes {G : ZG} {d : Nat} {iv : Nat → Nat → Int} {K : Option AV → AH → Prop} (h : MT iv) (h74 : 1 ≤ iv 0 74 ∧ iv 0 74 ≤ 8) (hi : 0 ≤ iv 45 (iv 0 74 - 1).toNat ∧ iv 45 (iv 0 74 - 1).toNat < 60) (k : K (some (vi (closeV iv).1)) (mkM (closeV iv).2)) : Z G mX12_closes (d + 6) 0 0 0 [vr (some 0), vu] [] (mkM iv) K := by
  have n1 := MT_nx h
  have n74 : nx iv 0 74 = iv 0 74 := nx_f.2 74 (by decide) (by decide) (by decide) (by decide)
  have n70 : nx iv 0 70 = iv 0 70 := nx_f.2 70 (by decide) (by decide) (by decide) (by decide)
  have n46 : nx iv 46 = iv 46 := nx_f.1 46 (by decide)
  have n42 : nx iv 42 = iv 42 := nx_f.1 42 (by decide)
  unfold closeV at k
  apply sX12_closes_0
  refine ⟨by omega, by omega, by have := h.1.1; omega, h.1.1.2.2.2, h.1.2, ?_⟩
  generalize hI : iv 45 (iv 0 74 - 1).toNat = i at *
  -- the block that ends is the step's last
  have e45 : ∀ w, w = (if ¬ iv 46 (iv 0 74 - 1).toNat = 0 then iu (iu (nx iv) 42 (12 * i + 8).toNat (iv 0 70)) 0 74 (iv 0 74 - 1) else iu (cl2 i (nx iv)) 0 74 (iv 0 74 - 1)) → K (some (vi 1)) (mkM w) → Z G mX12_closes (d + 6) 0 0 45 [vr (some 0), vi i] [] (mkM (nx iv)) K := by
    intro w hw kw
    apply sX12_closes_45
    rw [n74, n46, n70]
    refine ⟨by omega, by omega, fun z => ⟨hi, by omega, ?_⟩, fun z => ⟨hi, by omega, ?_⟩⟩
    · apply sX12_closes_75
      rw [iu_o (i := 0) (by decide), iu_row (i := 46) (by decide), n74, n46]
      refine ⟨by omega, by omega, fun q => absurd z q, fun _ => ⟨hi, by omega, ?_⟩⟩
      apply sX12_closes_100
      rw [iu_o (i := 0) (by decide), iu_o (i := 0) (by decide), iu_o (i := 0) (by decide), n74, n70]
      refine ⟨by omega, ?_⟩
      rw [if_neg (fun q => q z)] at hw
      rw [hw] at kw
      unfold cl2 at kw
      rw [n70] at kw; exact kw
    · apply sX12_closes_75
      rw [iu_o (i := 0) (by decide), iu_row (i := 46) (by decide), n74, n46]
      refine ⟨by omega, by omega, fun _ => ?_, fun q => absurd q z⟩
      apply sX12_closes_100
      rw [iu_o (i := 0) (by decide), n74]
      refine ⟨by omega, ?_⟩
      rw [if_pos z] at hw
      rw [hw] at kw; exact kw
  apply sX12_closes_16
  rw [n74, n46, n42]
  refine ⟨by omega, by omega, fun z => e45 _ (by rw [if_pos z]) ?_, fun z => ⟨by omega, by omega, by omega, fun n5 => ?_, fun y5 => e45 _ (by rw [if_neg (fun q => q z)]) ?_⟩⟩
  · rw [if_pos z] at k; exact k
  · rw [if_neg (fun q => q z), if_neg n5] at k
    apply sX12_closes_112
    have e2 : iu (iu (nx iv) 42 (12 * i + 7).toNat (nx iv 0 70)) 42 (12 * i + 8).toNat (iu (nx iv) 42 (12 * i + 7).toNat (nx iv 0 70) 0 70) = cl2 i (nx iv) := by unfold cl2; rw [iu_o (i := 0) (by decide)]
    rw [e2]
    refine ⟨hi, by omega, hi, by omega, ?_⟩
    have t2 : MT (cl2 i (nx iv)) := MT_u (MT_u n1)
    apply sX12_closes_134
    rw [cl2_w, cl2_f 0 (by decide), n74]
    refine ⟨t2.1, fun y => ⟨by have := t2.1.1; rw [cl2_f 0 (by decide)] at this; omega, by have := t2.1.1; rw [cl2_f 0 (by decide)] at this; omega, t2.1.2, ?_⟩, fun n => ⟨by omega, ?_⟩⟩
    · rw [if_neg (fun q => q y)] at k
      apply sX12_closes_160
      have q74 : nx (cl2 i (nx iv)) 0 74 = iv 0 74 := by rw [nx_f.2 74 (by decide) (by decide) (by decide) (by decide), cl2_f 0 (by decide)]; exact n74
      rw [q74]
      have t3 : MT (iu (nx (cl2 i (nx iv))) 46 (iv 0 74 - 1).toNat 1) := MT_c (MT_nx t2) (iu_row (by decide)) (fun j _ => iu_o (by decide))
      refine ⟨by omega, by omega, t3.1, fun b v w => ?_⟩
      rcases w with ⟨ys, e1, e2⟩ | ⟨ns, e1, e2⟩
      · unfold isS at ys
        rw [iu_o (i := 0) (by decide), iu_o (i := 0) (by decide)] at ys
        rw [if_pos ys] at k
        rw [e1, e2]; exact ⟨Or.inr rfl, k⟩
      · unfold isS at ns
        rw [iu_o (i := 0) (by decide), iu_o (i := 0) (by decide)] at ns
        rw [if_neg ns] at k
        rw [e1, e2]; exact ⟨Or.inl rfl, k⟩
    · rw [if_pos n] at k; exact k
  · rw [if_neg (fun q => q z), if_pos y5] at k; exact k

