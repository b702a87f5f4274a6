/-! ===== reading in step: the model's loop ===== -/
set_option maxRecDepth 20000 in
theorem sX12_sheet_0 {G : ZG} {d : Nat} {iv : Nat → Nat → Int} {K : Option AV → AH → Prop} {x1 : Int} (h : (x1 < 0 → (K (some (vi (-1))) (mkM (iu iv 0 0 1)))) ∧ (0 ≤ x1 → ((x1 ≤ (iv 0 43) → (Z G mX12_sheet (d + 8) 0 0 24 [vr (some 0), vi x1, vu, vu] [vi 0] (mkM (iu iv 0 44 x1)) K)) ∧ ((iv 0 43) < x1 → (K (some (vi (-1))) (mkM (iu iv 0 0 1))))))) : Z G mX12_sheet (d + 8) 0 0 0 [vr (some 0), vi x1, vu, vu] [] (mkM iv) K := (Z_iload_n (dX12_sheet 0) rfl (Z_if_lt (dX12_sheet 1) rfl (fun c1 => (Z_aload_n (dX12_sheet 6) rfl (Z_iconst (dX12_sheet 7) ⟨by decide, by decide⟩ (Z_cVM (As := [vi 1]) (S := []) (dX12_sheet 8) lk_X12_221 sM0 (by decide) rfl rfl (Nat.le_of_ble_eq_true rfl) (Nat.le_of_ble_eq_true rfl) (M_refuse  ((Z_ireturn (dX12_sheet 9) rfl (h.1 c1)))))))) (fun c2 => (Z_iload_n (dX12_sheet 2) rfl (Z_aload_n (dX12_sheet 3) rfl (Z_gIM (x := (iv 0 43)) (dX12_sheet 4) lk_X12_355 sM0 (Or.inl rfl) rfl (Z_icmp_le (dX12_sheet 5) rfl (fun c3 => (Z_aload_n (dX12_sheet 10) rfl (Z_iload_n (dX12_sheet 11) rfl (Z_putIM (dX12_sheet 12) lk_X12_361 sM0 rfl (Or.inl rfl) (Z_iconst (dX12_sheet 13) ⟨by decide, by decide⟩ ((h.2 c2).1 c3)))))) (fun c4 => (Z_aload_n (dX12_sheet 6) rfl (Z_iconst (dX12_sheet 7) ⟨by decide, by decide⟩ (Z_cVM (As := [vi 1]) (S := []) (dX12_sheet 8) lk_X12_221 sM0 (by decide) rfl rfl (Nat.le_of_ble_eq_true rfl) (Nat.le_of_ble_eq_true rfl) (M_refuse  ((Z_ireturn (dX12_sheet 9) rfl ((h.2 c2).2 c4)))))))))))))))
set_option maxRecDepth 20000 in
theorem sX12_sheet_89 {G : ZG} {d : Nat} {iv : Nat → Nat → Int} {K : Option AV → AH → Prop} {x2 : Int} (h : (x2 = 0 → (Z G mX12_sheet (d + 8) 0 0 151 [vr (some 0), vu, vu, vu] [] (mkM iv) K)) ∧ (¬ x2 = 0 → ((¬ (iv 0 51) = 0 → (Z G mX12_sheet (d + 8) 0 0 151 [vr (some 0), vu, vu, vu] [] (mkM iv) K)) ∧ ((iv 0 51) = 0 → ((¬ (iv 0 45) = 0 → (((iv 0 74) ≤ 0 → ((MT iv) ∧ ((0 ≤ iv 0 70 ∧ iv 0 70 ≤ 60) ∧ ((0 ≤ iv 0 74) ∧ (Z G mX12_sheet (d + 8) 0 0 89 [vr (some 0), vu, vi (stepV iv).1, vu] [] (mkM (stepV iv).2) K))))) ∧ (0 < (iv 0 74) → ((¬ (iv 0 45 = 4 ∧ iv 0 48 = 125) → ((MT iv) ∧ ((0 ≤ iv 0 70 ∧ iv 0 70 ≤ 60) ∧ ((0 ≤ iv 0 74) ∧ (Z G mX12_sheet (d + 8) 0 0 89 [vr (some 0), vu, vi (stepV iv).1, vu] [] (mkM (stepV iv).2) K))))) ∧ (iv 0 45 = 4 ∧ iv 0 48 = 125 → ((MT iv) ∧ ((1 ≤ iv 0 74 ∧ iv 0 74 ≤ 8) ∧ ((0 ≤ iv 45 (iv 0 74 - 1).toNat ∧ iv 45 (iv 0 74 - 1).toNat < 60) ∧ (Z G mX12_sheet (d + 8) 0 0 89 [vr (some 0), vu, vi (closeV iv).1, vu] [] (mkM (closeV iv).2) K))))))))) ∧ ((iv 0 45) = 0 → ((¬ (iv 0 74) = 0 → (((iv 0 74) ≤ 0 → ((MT iv) ∧ ((0 ≤ iv 0 70 ∧ iv 0 70 ≤ 60) ∧ ((0 ≤ iv 0 74) ∧ (Z G mX12_sheet (d + 8) 0 0 89 [vr (some 0), vu, vi (stepV iv).1, vu] [] (mkM (stepV iv).2) K))))) ∧ (0 < (iv 0 74) → ((¬ (iv 0 45 = 4 ∧ iv 0 48 = 125) → ((MT iv) ∧ ((0 ≤ iv 0 70 ∧ iv 0 70 ≤ 60) ∧ ((0 ≤ iv 0 74) ∧ (Z G mX12_sheet (d + 8) 0 0 89 [vr (some 0), vu, vi (stepV iv).1, vu] [] (mkM (stepV iv).2) K))))) ∧ (iv 0 45 = 4 ∧ iv 0 48 = 125 → ((MT iv) ∧ ((1 ≤ iv 0 74 ∧ iv 0 74 ≤ 8) ∧ ((0 ≤ iv 45 (iv 0 74 - 1).toNat ∧ iv 45 (iv 0 74 - 1).toNat < 60) ∧ (Z G mX12_sheet (d + 8) 0 0 89 [vr (some 0), vu, vi (closeV iv).1, vu] [] (mkM (closeV iv).2) K))))))))) ∧ ((iv 0 74) = 0 → (Z G mX12_sheet (d + 8) 0 0 89 [vr (some 0), vu, vi 0, vu] [] (mkM iv) K))))))))) : Z G mX12_sheet (d + 8) 0 0 89 [vr (some 0), vu, vi x2, vu] [] (mkM iv) K := (Z_iload_n (dX12_sheet 53) rfl (Z_if_eq (dX12_sheet 54) rfl (fun c1 => (Z.fg (L' := [vr (some 0), vu, vu, vu]) (L := [vr (some 0), vu, vi x2, vu]) ⟨Or.inl rfl, ⟨Or.inl rfl, ⟨Or.inr rfl, ⟨Or.inl rfl, trivial⟩⟩⟩⟩ (h.1 c1))) (fun c2 => (Z_aload_n (dX12_sheet 55) rfl (Z_gIM (x := (iv 0 51)) (dX12_sheet 56) lk_X12_395 sM0 (Or.inl rfl) rfl (Z_if_ne (dX12_sheet 57) rfl (fun c3 => (Z.fg (L' := [vr (some 0), vu, vu, vu]) (L := [vr (some 0), vu, vi x2, vu]) ⟨Or.inl rfl, ⟨Or.inl rfl, ⟨Or.inr rfl, ⟨Or.inl rfl, trivial⟩⟩⟩⟩ ((h.2 c2).1 c3))) (fun c4 => (Z_aload_n (dX12_sheet 58) rfl (Z_gIM (x := (iv 0 45)) (dX12_sheet 59) lk_X12_376 sM0 (Or.inl rfl) rfl (Z_if_ne (dX12_sheet 60) rfl (fun c5 => (Z_aload_n (dX12_sheet 67) rfl (Z_gIM (x := (iv 0 74)) (dX12_sheet 68) lk_X12_434 sM0 (Or.inl rfl) rfl (Z_if_le (dX12_sheet 69) rfl (fun c7 => (Z_aload_n (dX12_sheet 78) rfl (Z_cVM (As := []) (S := []) (dX12_sheet 79) lk_X12_470 sM0 (by decide) rfl rfl (Nat.le_of_ble_eq_true rfl) (Nat.le_of_ble_eq_true rfl) (M_step  ((((h.2 c2).2 c4).1 c5).1 c7).1 ((((h.2 c2).2 c4).1 c5).1 c7).2.1 ((((h.2 c2).2 c4).1 c5).1 c7).2.2.1 ((Z_istore_n (dX12_sheet 80) (Nat.le_of_ble_eq_true rfl) rfl (Z_goto (dX12_sheet 81) rfl ((((h.2 c2).2 c4).1 c5).1 c7).2.2.2))))))) (fun c8 => (Z_aload_n (dX12_sheet 70) rfl (Z_bipush (dX12_sheet 71) ⟨by decide, by decide⟩ (Z_cVM (As := [vi 125]) (S := []) (dX12_sheet 72) lk_X12_398 sM0 (by decide) rfl rfl (Nat.le_of_ble_eq_true rfl) (Nat.le_of_ble_eq_true rfl) (M_isSign  ((Z_if_eq (dX12_sheet 73) rfl (fun c9 => (Z_aload_n (dX12_sheet 78) rfl (Z_cVM (As := []) (S := []) (dX12_sheet 79) lk_X12_470 sM0 (by decide) rfl rfl (Nat.le_of_ble_eq_true rfl) (Nat.le_of_ble_eq_true rfl) (M_step  (((((h.2 c2).2 c4).1 c5).2 c8).1 (b01_0.mp c9)).1 (((((h.2 c2).2 c4).1 c5).2 c8).1 (b01_0.mp c9)).2.1 (((((h.2 c2).2 c4).1 c5).2 c8).1 (b01_0.mp c9)).2.2.1 ((Z_istore_n (dX12_sheet 80) (Nat.le_of_ble_eq_true rfl) rfl (Z_goto (dX12_sheet 81) rfl (((((h.2 c2).2 c4).1 c5).2 c8).1 (b01_0.mp c9)).2.2.2))))))) (fun c10 => (Z_aload_n (dX12_sheet 74) rfl (Z_cVM (As := []) (S := []) (dX12_sheet 75) lk_X12_467 sM0 (by decide) rfl rfl (Nat.le_of_ble_eq_true rfl) (Nat.le_of_ble_eq_true rfl) (M_closes  (((((h.2 c2).2 c4).1 c5).2 c8).2 (b01_n.mp c10)).1 (((((h.2 c2).2 c4).1 c5).2 c8).2 (b01_n.mp c10)).2.1 (((((h.2 c2).2 c4).1 c5).2 c8).2 (b01_n.mp c10)).2.2.1 ((Z_istore_n (dX12_sheet 76) (Nat.le_of_ble_eq_true rfl) rfl (Z_goto (dX12_sheet 77) rfl (((((h.2 c2).2 c4).1 c5).2 c8).2 (b01_n.mp c10)).2.2.2)))))))))))))))))) (fun c6 => (Z_aload_n (dX12_sheet 61) rfl (Z_gIM (x := (iv 0 74)) (dX12_sheet 62) lk_X12_434 sM0 (Or.inl rfl) rfl (Z_if_ne (dX12_sheet 63) rfl (fun c11 => (Z_aload_n (dX12_sheet 67) rfl (Z_gIM (x := (iv 0 74)) (dX12_sheet 68) lk_X12_434 sM0 (Or.inl rfl) rfl (Z_if_le (dX12_sheet 69) rfl (fun c13 => (Z_aload_n (dX12_sheet 78) rfl (Z_cVM (As := []) (S := []) (dX12_sheet 79) lk_X12_470 sM0 (by decide) rfl rfl (Nat.le_of_ble_eq_true rfl) (Nat.le_of_ble_eq_true rfl) (M_step  (((((h.2 c2).2 c4).2 c6).1 c11).1 c13).1 (((((h.2 c2).2 c4).2 c6).1 c11).1 c13).2.1 (((((h.2 c2).2 c4).2 c6).1 c11).1 c13).2.2.1 ((Z_istore_n (dX12_sheet 80) (Nat.le_of_ble_eq_true rfl) rfl (Z_goto (dX12_sheet 81) rfl (((((h.2 c2).2 c4).2 c6).1 c11).1 c13).2.2.2))))))) (fun c14 => (Z_aload_n (dX12_sheet 70) rfl (Z_bipush (dX12_sheet 71) ⟨by decide, by decide⟩ (Z_cVM (As := [vi 125]) (S := []) (dX12_sheet 72) lk_X12_398 sM0 (by decide) rfl rfl (Nat.le_of_ble_eq_true rfl) (Nat.le_of_ble_eq_true rfl) (M_isSign  ((Z_if_eq (dX12_sheet 73) rfl (fun c15 => (Z_aload_n (dX12_sheet 78) rfl (Z_cVM (As := []) (S := []) (dX12_sheet 79) lk_X12_470 sM0 (by decide) rfl rfl (Nat.le_of_ble_eq_true rfl) (Nat.le_of_ble_eq_true rfl) (M_step  ((((((h.2 c2).2 c4).2 c6).1 c11).2 c14).1 (b01_0.mp c15)).1 ((((((h.2 c2).2 c4).2 c6).1 c11).2 c14).1 (b01_0.mp c15)).2.1 ((((((h.2 c2).2 c4).2 c6).1 c11).2 c14).1 (b01_0.mp c15)).2.2.1 ((Z_istore_n (dX12_sheet 80) (Nat.le_of_ble_eq_true rfl) rfl (Z_goto (dX12_sheet 81) rfl ((((((h.2 c2).2 c4).2 c6).1 c11).2 c14).1 (b01_0.mp c15)).2.2.2))))))) (fun c16 => (Z_aload_n (dX12_sheet 74) rfl (Z_cVM (As := []) (S := []) (dX12_sheet 75) lk_X12_467 sM0 (by decide) rfl rfl (Nat.le_of_ble_eq_true rfl) (Nat.le_of_ble_eq_true rfl) (M_closes  ((((((h.2 c2).2 c4).2 c6).1 c11).2 c14).2 (b01_n.mp c16)).1 ((((((h.2 c2).2 c4).2 c6).1 c11).2 c14).2 (b01_n.mp c16)).2.1 ((((((h.2 c2).2 c4).2 c6).1 c11).2 c14).2 (b01_n.mp c16)).2.2.1 ((Z_istore_n (dX12_sheet 76) (Nat.le_of_ble_eq_true rfl) rfl (Z_goto (dX12_sheet 77) rfl ((((((h.2 c2).2 c4).2 c6).1 c11).2 c14).2 (b01_n.mp c16)).2.2.2)))))))))))))))))) (fun c12 => (Z_iconst (dX12_sheet 64) ⟨by decide, by decide⟩ (Z_istore_n (dX12_sheet 65) (Nat.le_of_ble_eq_true rfl) rfl (Z_goto (dX12_sheet 66) rfl ((((h.2 c2).2 c4).2 c6).2 c12)))))))))))))))))))
set_option maxRecDepth 20000 in
theorem sX12_sheet_151 {G : ZG} {d : Nat} {iv : Nat → Nat → Int} {K : Option AV → AH → Prop} (h : ((iv 0 51) ≤ 0 → (Z G mX12_sheet (d + 8) 0 0 183 [vr (some 0), vu, vu, vi 0] [] (mkM (iu (iu iv 0 49 (iv 0 51)) 0 68 (iv 0 70))) K)) ∧ (0 < (iv 0 51) → (K (some (vi (-1))) (mkM (iu (iu iv 0 49 (iv 0 51)) 0 0 9))))) : Z G mX12_sheet (d + 8) 0 0 151 [vr (some 0), vu, vu, vu] [] (mkM iv) K := (Z_aload_n (dX12_sheet 82) rfl (Z_aload_n (dX12_sheet 83) rfl (Z_gIM (x := (iv 0 51)) (dX12_sheet 84) lk_X12_395 sM0 (Or.inl rfl) rfl (Z_putIM (dX12_sheet 85) lk_X12_111 sM0 rfl (Or.inl rfl) (Z_aload_n (dX12_sheet 86) rfl (Z_gIM (x := (iv 0 51)) (dX12_sheet 87) lk_X12_395 sM0 (Or.inl rfl) ((iu_k (by decide)).trans rfl) (Z_if_le (dX12_sheet 88) rfl (fun c1 => (Z_aload_n (dX12_sheet 93) rfl (Z_aload_n (dX12_sheet 94) rfl (Z_gIM (x := (iv 0 70)) (dX12_sheet 95) lk_X12_431 sM0 (Or.inl rfl) ((iu_k (by decide)).trans rfl) (Z_putIM (dX12_sheet 96) lk_X12_473 sM0 rfl (Or.inl rfl) (Z_iconst (dX12_sheet 97) ⟨by decide, by decide⟩ (Z_istore_n (dX12_sheet 98) (Nat.le_of_ble_eq_true rfl) rfl (h.1 c1)))))))) (fun c2 => (Z_aload_n (dX12_sheet 89) rfl (Z_bipush (dX12_sheet 90) ⟨by decide, by decide⟩ (Z_cVM (As := [vi 9]) (S := []) (dX12_sheet 91) lk_X12_221 sM0 (by decide) rfl rfl (Nat.le_of_ble_eq_true rfl) (Nat.le_of_ble_eq_true rfl) (M_refuse  ((Z_ireturn (dX12_sheet 92) rfl (h.2 c2)))))))))))))))
def EZ (G : ZG) (d : Nat) (K : Option AV → AH → Prop) (m : Nat → Nat → Int) : Prop := Z G mX12_sheet (d + 8) 0 0 151 [vr (some 0), vu, vu, vu] [] (mkM m) K
def LZ (G : ZG) (d : Nat) (K : Option AV → AH → Prop) (b : Int) (m : Nat → Nat → Int) : Prop := Z G mX12_sheet (d + 8) 0 0 89 [vr (some 0), vu, vi b, vu] [] (mkM m) K
/-- the model's reading goes on from a state -/
def CZ (G : ZG) (d : Nat) (K : Option AV → AH → Prop) (m : Nat → Nat → Int) : Prop := (m 0 51 = 0 → WFA m → LZ G d K 1 m) ∧ (¬ m 0 51 = 0 → EZ G d K m)
def PM (m : Nat → Nat → Int) : Prop := MT m ∧ (0 ≤ m 0 70 ∧ m 0 70 ≤ 60) ∧ (0 ≤ m 0 74 ∧ m 0 74 ≤ 4) ∧ ∀ t : Int, 0 ≤ t → t < m 0 74 → 0 ≤ m 45 t.toNat ∧ m 45 t.toNat < m 0 70
theorem CZ_b {G : ZG} {d : Nat} {K : Option AV → AH → Prop} {b : Int} {m : Nat → Nat → Int} (h : CZ G d K m) (hw : m 0 51 = 0 → WFA m) (hb : b = 1 ∨ (b = 0 ∧ ¬ m 0 51 = 0)) : LZ G d K b m := by
  rcases hb with e | ⟨e, n⟩
  · subst e
    by_cases z : m 0 51 = 0
    · exact h.1 z (hw z)
    · apply sX12_sheet_89
      exact ⟨fun q => absurd q (by decide), fun _ => ⟨fun _ => h.2 z, fun q => absurd q z⟩⟩
  · subst e
    apply sX12_sheet_89
    exact ⟨fun _ => h.2 n, fun q => absurd rfl q⟩
theorem step_01 (m : Nat → Nat → Int) : (stepV m).1 = 1 ∨ ((stepV m).1 = 0 ∧ ¬ (stepV m).2 0 51 = 0) := by
  unfold stepV
  split
  · exact Or.inr ⟨rfl, mfail_51 (by omega)⟩
  · split
    · exact Or.inr ⟨rfl, mfail_51 (by omega)⟩
    · split
      · rename_i g; exact Or.inr ⟨rfl, by show ¬ midV _ _ _ 0 51 = 0; omega⟩
      · split
        · rename_i g; exact Or.inr ⟨rfl, by show ¬ optW _ _ _ 0 51 = 0; omega⟩
        · unfold endV
          split
          · split
            · exact Or.inl rfl
            · exact Or.inr ⟨rfl, mfail_51 (by omega)⟩
          · split
            · exact Or.inl rfl
            · exact Or.inr ⟨rfl, mfail_51 (by omega)⟩
theorem close_01 (m : Nat → Nat → Int) : (closeV m).1 = 1 ∨ ((closeV m).1 = 0 ∧ ¬ (closeV m).2 0 51 = 0) := by
  unfold closeV
  split
  · exact Or.inl rfl
  · split
    · exact Or.inl rfl
    · split
      · exact Or.inl rfl
      · split
        · exact Or.inl rfl
        · exact Or.inr ⟨rfl, mfail_51 (by omega)⟩
theorem L_step {G : ZG} {d : Nat} {K : Option AV → AH → Prop} {m : Nat → Nat → Int} (h : PM m) (nd : ¬ (m 0 45 = 0 ∧ m 0 74 = 0)) (nc : ¬ (0 < m 0 74 ∧ (m 0 45 = 4 ∧ m 0 48 = 125))) (c : CZ G d K (stepV m).2) (z : m 0 51 = 0) : CZ G d K m := by
  refine ⟨fun _ wf => ?_, fun q => absurd z q⟩
  have l := CZ_b c (WFA_step h.1 wf z) (step_01 m)
  apply sX12_sheet_89
  have p : MT m ∧ (0 ≤ m 0 70 ∧ m 0 70 ≤ 60) ∧ 0 ≤ m 0 74 ∧ LZ G d K (stepV m).1 (stepV m).2 := ⟨h.1, h.2.1, h.2.2.1.1, l⟩
  exact ⟨fun q => absurd q (by decide), fun _ => ⟨fun q => absurd z q, fun _ => ⟨fun n0 => ⟨fun _ => p, fun gt => ⟨fun _ => p, fun y => absurd ⟨gt, y⟩ nc⟩⟩, fun e0 => ⟨fun n => ⟨fun _ => p, fun gt => ⟨fun _ => p, fun y => absurd ⟨gt, y⟩ nc⟩⟩, fun e => absurd ⟨e0, e⟩ nd⟩⟩⟩⟩
theorem L_close {G : ZG} {d : Nat} {K : Option AV → AH → Prop} {m : Nat → Nat → Int} (h : PM m) (gt : 0 < m 0 74) (y : m 0 45 = 4 ∧ m 0 48 = 125) (c : CZ G d K (closeV m).2) (z : m 0 51 = 0) : CZ G d K m := by
  refine ⟨fun _ wf => ?_, fun q => absurd z q⟩
  have b := h.2.2.2 (m 0 74 - 1) (by omega) (by omega)
  have l := CZ_b c (WFA_close wf b.1) (close_01 m)
  have s := h.2.1
  have o := h.2.2.1
  apply sX12_sheet_89
  exact ⟨fun q => absurd q (by decide), fun _ => ⟨fun q => absurd z q, fun _ => ⟨fun n0 => ⟨fun q => by omega, fun _ => ⟨fun n => absurd y n, fun _ => ⟨h.1, by omega, by omega, l⟩⟩⟩, fun e0 => by omega⟩⟩⟩
theorem L_done {G : ZG} {d : Nat} {K : Option AV → AH → Prop} {m : Nat → Nat → Int} (z : m 0 51 = 0) (h45 : m 0 45 = 0) (h74 : m 0 74 = 0) (e : WFA m → EZ G d K m) : CZ G d K m := by
  refine ⟨fun _ wf => ?_, fun q => absurd z q⟩
  have e := e wf
  apply sX12_sheet_89
  refine ⟨fun q => absurd q (by decide), fun _ => ⟨fun q => absurd z q, fun _ => ⟨fun n0 => absurd h45 n0, fun _ => ⟨fun n => absurd h74 n, fun _ => ?_⟩⟩⟩⟩
  apply sX12_sheet_89
  exact ⟨fun _ => e, fun q => absurd rfl q⟩

