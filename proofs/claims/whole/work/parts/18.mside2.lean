/-! ===== sides: the rest of the model's ===== -/
/-- the k-th from a on, of so many, or -1 -/
def nthf (P : Int → Prop) [DecidablePred P] (k a : Int) (m : Nat) : Int := match m with
  | 0 => -1
  | m + 1 => if P a then (if k = 0 then a else nthf P (k - 1) (a + 1) m) else nthf P k (a + 1) m
theorem nthf_neg {P : Int → Prop} [DecidablePred P] : ∀ (m : Nat) (k a : Int), k < 0 → nthf P k a m = -1
  | 0, _, _, _ => rfl
  | m + 1, k, a, h => by
    unfold nthf
    rw [if_neg (show ¬ k = 0 by omega), nthf_neg m (k - 1) (a + 1) (by omega), nthf_neg m k (a + 1) h]
    split <;> rfl
theorem nthf_congr {P Q : Int → Prop} [DecidablePred P] [DecidablePred Q] : ∀ (m : Nat) (k a : Int), (∀ j, a ≤ j → j < a + m → (P j ↔ Q j)) → nthf P k a m = nthf Q k a m
  | 0, _, _, _ => rfl
  | m + 1, k, a, h => by
    unfold nthf
    have i1 := nthf_congr m k (a + 1) (fun j h1 h2 => h j (by omega) (by omega))
    have i2 := nthf_congr m (k - 1) (a + 1) (fun j h1 h2 => h j (by omega) (by omega))
    have h0 := h a (by omega) (by omega)
    rw [i1, i2]
    by_cases hp : P a
    · rw [if_pos hp, if_pos (h0.mp hp)]
    · rw [if_neg hp, if_neg (fun q => hp (h0.mpr q))]
theorem nthf_r {P : Int → Prop} [DecidablePred P] : ∀ (m : Nat) (k a : Int), nthf P k a m = -1 ∨ (a ≤ nthf P k a m ∧ nthf P k a m < a + m ∧ P (nthf P k a m))
  | 0, _, _ => Or.inl rfl
  | m + 1, k, a => by
    unfold nthf
    have i1 := nthf_r (P := P) m k (a + 1)
    have i2 := nthf_r (P := P) m (k - 1) (a + 1)
    split
    · split
      · rename_i h _; exact Or.inr ⟨by omega, by omega, h⟩
      · rcases i2 with h | ⟨h1, h2, h3⟩
        · exact Or.inl h
        · exact Or.inr ⟨by omega, by omega, h3⟩
    · rcases i1 with h | ⟨h1, h2, h3⟩
      · exact Or.inl h
      · exact Or.inr ⟨by omega, by omega, h3⟩
/-- how many -/
def cntf (P : Int → Prop) [DecidablePred P] (m : Nat) : Int := match m with
  | 0 => 0
  | m + 1 => cntf P m + (if P m then 1 else 0)
theorem cntf_r {P : Int → Prop} [DecidablePred P] : ∀ (m : Nat), 0 ≤ cntf P m ∧ cntf P m ≤ m
  | 0 => by unfold cntf; omega
  | m + 1 => by
    unfold cntf
    have := cntf_r (P := P) m
    split <;> omega
theorem cntf_congr {P Q : Int → Prop} [DecidablePred P] [DecidablePred Q] : ∀ (m : Nat), (∀ j : Int, 0 ≤ j → j < m → (P j ↔ Q j)) → cntf P m = cntf Q m
  | 0, _ => rfl
  | m + 1, h => by
    unfold cntf
    rw [cntf_congr m (fun j h1 h2 => h j h1 (by omega))]
    have h0 := h m (by omega) (by omega)
    by_cases hp : P m
    · rw [if_pos hp, if_pos (h0.mp hp)]
    · rw [if_neg hp, if_neg (fun q => hp (h0.mpr q))]
/-- ROOM -/
def RoomR (n : Int) (lv : Int → Int) (land feed r : Int) : Prop := (n = 0 ∧ r = 0) ∨ (0 < n ∧ ∃ p, Least n lv land feed p ∧ r = p (n - 1) + lv (n - 1))
def roomM (iv : Nat → Nat → Int) (s r : Int) : Prop := RoomR (iv 7 s.toNat) (fun k => iv 8 (400 * s + k).toNat) (iv 0 5) (iv 0 6) r
/-- LEAST PLACES lie within what the FEED can do -/
theorem Least.ub {n : Int} {lv : Int → Int} {land feed : Int} {p : Int → Int} (hf : 0 ≤ feed) (hs : ∀ k, 8 ≤ k → k < n → lv k + lv (k - 8) + land ≤ 8 * feed) (h : Least n lv land feed p) : ∀ k, 0 ≤ k → k < n → 0 ≤ p k ∧ p k ≤ k * feed := fun k a b => ⟨h.1.1 k a b, h.2 _ (Pl_U hf hs) k a b⟩
theorem leastM_ub {iv iv' : Nat → Nat → Int} {s : Int} (h0 : okSide iv s) (hst : stuckM iv s = -1) (h : leastM iv iv' s) : ∀ k : Int, 0 ≤ k → k < iv 7 s.toNat → 0 ≤ iv' 15 (400 * s + k).toNat ∧ iv' 15 (400 * s + k).toNat ≤ 8000 := by
  intro k a b
  have e := Least.ub (by have := h0.2.2.1; omega) (stuckM_none.mp hst) h k a b
  have h8 : k * iv 0 6 ≤ 400 * 20 := by
    have := h0.2.1
    have := h0.2.2.1
    exact Int.mul_le_mul (by omega) (by omega) (by omega) (by omega)
  omega
set_option maxRecDepth 20000 in
theorem sX12_roomOf_0 {G : ZG} {d : Nat} {iv : Nat → Nat → Int} {K : Option AV → AH → Prop} {x1 : Int} (h : (0 ≤ x1 ∧ x1 < (2 : Nat)) ∧ ((¬ (iv 7 ((x1).toNat)) = 0 → ((okSide iv x1) ∧ ((stuckM iv x1 = -1) ∧ ((∀ (v3 : Nat → Nat → Int), (∀ i j, i ≠ 15 → ¬ (i = 0 ∧ j = 20) → v3 i j = iv i j) ∧ leastM iv v3 x1 → ((0 ≤ x1 ∧ x1 < (2 : Nat)) ∧ ((-2147483648 ≤ ((v3 7 ((x1).toNat)) - 1) ∧ ((v3 7 ((x1).toNat)) - 1) ≤ 2147483647) ∧ ((0 ≤ x1 ∧ x1 ≤ 1 ∧ -1000 ≤ ((v3 7 ((x1).toNat)) - 1) ∧ ((v3 7 ((x1).toNat)) - 1) ≤ 1000) ∧ ((0 ≤ (400 * x1 + ((v3 7 ((x1).toNat)) - 1)) ∧ (400 * x1 + ((v3 7 ((x1).toNat)) - 1)) < (800 : Nat)) ∧ ((0 ≤ (400 * x1 + ((v3 7 ((x1).toNat)) - 1)) ∧ (400 * x1 + ((v3 7 ((x1).toNat)) - 1)) < (800 : Nat)) ∧ ((-2147483648 ≤ ((v3 15 ((400 * x1 + ((v3 7 ((x1).toNat)) - 1)).toNat)) + (v3 8 ((400 * x1 + ((v3 7 ((x1).toNat)) - 1)).toNat))) ∧ ((v3 15 ((400 * x1 + ((v3 7 ((x1).toNat)) - 1)).toNat)) + (v3 8 ((400 * x1 + ((v3 7 ((x1).toNat)) - 1)).toNat))) ≤ 2147483647) ∧ (K (some (vi ((v3 15 ((400 * x1 + ((v3 7 ((x1).toNat)) - 1)).toNat)) + (v3 8 ((400 * x1 + ((v3 7 ((x1).toNat)) - 1)).toNat))))) (mkM v3))))))))))))) ∧ ((iv 7 ((x1).toNat)) = 0 → (K (some (vi 0)) (mkM iv))))) : Z G mX12_roomOf (d + 3) 0 0 0 [vr (some 0), vi x1, vu] [] (mkM iv) K := (Z_aload_n (dX12_roomOf 0) rfl (Z_gRM (r := (some 7)) (dX12_roomOf 1) lk_X12_39 sM0 rfl rfl (Z_iload_n (dX12_roomOf 2) rfl (Z_ilM (x := (iv 7 ((x1).toNat))) (dX12_roomOf 3) sM7 h.1 rfl (Z_if_ne (dX12_roomOf 4) rfl (fun c1 => (Z_aload_n (dX12_roomOf 7) rfl (Z_iload_n (dX12_roomOf 8) rfl (Z_cVM (As := [vi x1]) (S := []) (dX12_roomOf 9) lk_X12_270 sM0 (by decide) rfl rfl (Nat.le_of_ble_eq_true rfl) (Nat.le_of_ble_eq_true rfl) (M_spread  (h.2.1 c1).1 (h.2.1 c1).2.1 (fun v3 c4 => (Z_iload_n (dX12_roomOf 10) rfl (Z_aload_n (dX12_roomOf 11) rfl (Z_gRM (r := (some 7)) (dX12_roomOf 12) lk_X12_39 sM0 rfl rfl (Z_iload_n (dX12_roomOf 13) rfl (Z_ilM (x := (v3 7 ((x1).toNat))) (dX12_roomOf 14) sM7 ((h.2.1 c1).2.2 v3 c4).1 rfl (Z_iconst (dX12_roomOf 15) ⟨by decide, by decide⟩ (Z_isub (dX12_roomOf 16) ((h.2.1 c1).2.2 v3 c4).2.1 (Z_cS (As := [vi x1, vi ((v3 7 ((x1).toNat)) - 1)]) (S := []) (dX12_roomOf 17) lk_X12_245 rfl (Nat.le_of_ble_eq_true rfl) (Nat.le_of_ble_eq_true rfl) (M_at  ((h.2.1 c1).2.2 v3 c4).2.2.1 ((Z_istore_n (dX12_roomOf 18) (Nat.le_of_ble_eq_true rfl) rfl (Z_aload_n (dX12_roomOf 19) rfl (Z_gRM (r := (some 15)) (dX12_roomOf 20) lk_X12_63 sM0 rfl rfl (Z_iload_n (dX12_roomOf 21) rfl (Z_ilM (x := (v3 15 ((400 * x1 + ((v3 7 ((x1).toNat)) - 1)).toNat))) (dX12_roomOf 22) sM15 ((h.2.1 c1).2.2 v3 c4).2.2.2.1 rfl (Z_aload_n (dX12_roomOf 23) rfl (Z_gRM (r := (some 8)) (dX12_roomOf 24) lk_X12_42 sM0 rfl rfl (Z_iload_n (dX12_roomOf 25) rfl (Z_ilM (x := (v3 8 ((400 * x1 + ((v3 7 ((x1).toNat)) - 1)).toNat))) (dX12_roomOf 26) sM8 ((h.2.1 c1).2.2 v3 c4).2.2.2.2.1 rfl (Z_iadd (dX12_roomOf 27) ((h.2.1 c1).2.2 v3 c4).2.2.2.2.2.1 (Z_ireturn (dX12_roomOf 28) rfl ((h.2.1 c1).2.2 v3 c4).2.2.2.2.2.2))))))))))))))))))))))))))) (fun c2 => (Z_iconst (dX12_roomOf 5) ⟨by decide, by decide⟩ (Z_ireturn (dX12_roomOf 6) rfl (h.2.2 c2)))))))))
theorem M_roomOf {G : ZG} {d : Nat} {iv : Nat → Nat → Int} {K : Option AV → AH → Prop} {x1 : Int} (h0 : okSide iv x1) (hst : stuckM iv x1 = -1) (k : ∀ v r, (∀ i j, i ≠ 15 → ¬ (i = 0 ∧ j = 20) → v i j = iv i j) ∧ roomM iv x1 r ∧ (0 ≤ r ∧ r ≤ 10000) → K (some (vi r)) (mkM v)) : Z G mX12_roomOf (d + 3) 0 0 0 [vr (some 0), vi x1, vu] [] (mkM iv) K := by
  have h1 := h0.1
  have h2 := h0.2.1
  apply sX12_roomOf_0
  refine ⟨by omega, fun hn => ⟨h0, hst, fun v c => ?_⟩, fun hn => k iv 0 ⟨fun _ _ _ _ => rfl, Or.inl ⟨hn, rfl⟩, by omega⟩⟩
  obtain ⟨c1, c2⟩ := c
  have e7 : v 7 = iv 7 := funext fun j => c1 7 j (by decide) (by omega)
  have e8 : v 8 = iv 8 := funext fun j => c1 8 j (by decide) (by omega)
  have b1 := leastM_ub h0 hst c2 (iv 7 x1.toNat - 1) (by omega) (by omega)
  have b2 := h0.2.2.2 (iv 7 x1.toNat - 1) (by omega) (by omega)
  rw [e7, e8]
  refine ⟨by omega, by omega, by omega, by omega, by omega, by omega, k v _ ⟨c1, Or.inr ⟨by omega, _, c2, rfl⟩, by omega⟩⟩
set_option maxRecDepth 20000 in
theorem sX12_place_0 {G : ZG} {d : Nat} {iv : Nat → Nat → Int} {K : Option AV → AH → Prop} {x1 x2 : Int} (h : ((0 ≤ x1 ∧ x1 ≤ 1) ∧ 0 ≤ x2 ∧ x2 < (iv 7 (x1).toNat) → ((okSide iv x1) ∧ (((stuckM iv x1) = (-1) → ((okSide iv x1) ∧ ((stuckM iv x1 = -1) ∧ ((∀ (v5 : Nat → Nat → Int), (∀ i j, i ≠ 15 → ¬ (i = 0 ∧ j = 20) → v5 i j = iv i j) ∧ leastM iv v5 x1 → ((0 ≤ x1 ∧ x1 ≤ 1 ∧ -1000 ≤ x2 ∧ x2 ≤ 1000) ∧ ((0 ≤ (400 * x1 + x2) ∧ (400 * x1 + x2) < (800 : Nat)) ∧ (K (some (vi (v5 15 ((400 * x1 + x2).toNat)))) (mkM (iu v5 0 0 0)))))))))) ∧ (¬ (stuckM iv x1) = (-1) → (K (some (vi (-1))) (mkM (iu iv 0 0 5))))))) ∧ (¬ ((0 ≤ x1 ∧ x1 ≤ 1) ∧ 0 ≤ x2 ∧ x2 < (iv 7 (x1).toNat)) → (K (some (vi (-1))) (mkM (iu iv 0 0 1))))) : Z G mX12_place (d + 3) 0 0 0 [vr (some 0), vi x1, vi x2] [] (mkM iv) K := (Z_aload_n (dX12_place 0) rfl (Z_iload_n (dX12_place 1) rfl (Z_iload_n (dX12_place 2) rfl (Z_cVM (As := [vi x1, vi x2]) (S := []) (dX12_place 3) lk_X12_252 sM0 (by decide) rfl rfl (Nat.le_of_ble_eq_true rfl) (Nat.le_of_ble_eq_true rfl) (M_isPart  ((Z_if_ne (dX12_place 4) rfl (fun c1 => (Z_aload_n (dX12_place 9) rfl (Z_iload_n (dX12_place 10) rfl (Z_cVM (As := [vi x1]) (S := []) (dX12_place 11) lk_X12_267 sM0 (by decide) rfl rfl (Nat.le_of_ble_eq_true rfl) (Nat.le_of_ble_eq_true rfl) (M_stuck  (h.1 (b01_n.mp c1)).1 ((Z_iconst (dX12_place 12) ⟨by decide, by decide⟩ (Z_icmp_eq (dX12_place 13) rfl (fun c3 => (Z_aload_n (dX12_place 18) rfl (Z_iload_n (dX12_place 19) rfl (Z_cVM (As := [vi x1]) (S := []) (dX12_place 20) lk_X12_270 sM0 (by decide) rfl rfl (Nat.le_of_ble_eq_true rfl) (Nat.le_of_ble_eq_true rfl) (M_spread  ((h.1 (b01_n.mp c1)).2.1 c3).1 ((h.1 (b01_n.mp c1)).2.1 c3).2.1 (fun v5 c6 => (Z_aload_n (dX12_place 21) rfl (Z_aload_n (dX12_place 22) rfl (Z_gRM (r := (some 15)) (dX12_place 23) lk_X12_63 sM0 rfl rfl (Z_iload_n (dX12_place 24) rfl (Z_iload_n (dX12_place 25) rfl (Z_cS (As := [vi x1, vi x2]) (S := [vr (some 15), vr (some 0)]) (dX12_place 26) lk_X12_245 rfl (Nat.le_of_ble_eq_true rfl) (Nat.le_of_ble_eq_true rfl) (M_at  (((h.1 (b01_n.mp c1)).2.1 c3).2.2 v5 c6).1 ((Z_ilM (x := (v5 15 ((400 * x1 + x2).toNat))) (dX12_place 27) sM15 (((h.1 (b01_n.mp c1)).2.1 c3).2.2 v5 c6).2.1 rfl (Z_cVM (As := [vi (v5 15 ((400 * x1 + x2).toNat))]) (S := []) (dX12_place 28) lk_X12_227 sM0 (by decide) rfl rfl (Nat.le_of_ble_eq_true rfl) (Nat.le_of_ble_eq_true rfl) (M_gives  ((Z_ireturn (dX12_place 29) rfl (((h.1 (b01_n.mp c1)).2.1 c3).2.2 v5 c6).2.2))))))))))))))))))) (fun c4 => (Z_aload_n (dX12_place 14) rfl (Z_iconst (dX12_place 15) ⟨by decide, by decide⟩ (Z_cVM (As := [vi 5]) (S := []) (dX12_place 16) lk_X12_221 sM0 (by decide) rfl rfl (Nat.le_of_ble_eq_true rfl) (Nat.le_of_ble_eq_true rfl) (M_refuse  ((Z_ireturn (dX12_place 17) rfl ((h.1 (b01_n.mp c1)).2.2 c4)))))))))))))))) (fun c2 => (Z_aload_n (dX12_place 5) rfl (Z_iconst (dX12_place 6) ⟨by decide, by decide⟩ (Z_cVM (As := [vi 1]) (S := []) (dX12_place 7) lk_X12_221 sM0 (by decide) rfl rfl (Nat.le_of_ble_eq_true rfl) (Nat.le_of_ble_eq_true rfl) (M_refuse  ((Z_ireturn (dX12_place 8) rfl (h.2 (b01_0.mp c2))))))))))))))))
set_option maxRecDepth 20000 in
theorem sX12_room_0 {G : ZG} {d : Nat} {iv : Nat → Nat → Int} {K : Option AV → AH → Prop} {x1 : Int} (h : (0 ≤ x1 ∧ x1 ≤ 1 → ((okSide iv x1) ∧ (((stuckM iv x1) = (-1) → ((okSide iv x1) ∧ ((stuckM iv x1 = -1) ∧ ((∀ (v5 : Nat → Nat → Int), ∀ (r6 : Int), (∀ i j, i ≠ 15 → ¬ (i = 0 ∧ j = 20) → v5 i j = iv i j) ∧ roomM iv x1 r6 ∧ (0 ≤ r6 ∧ r6 ≤ 10000) → (K (some (vi r6)) (mkM (iu v5 0 0 0)))))))) ∧ (¬ (stuckM iv x1) = (-1) → (K (some (vi (-1))) (mkM (iu iv 0 0 5))))))) ∧ (¬ (0 ≤ x1 ∧ x1 ≤ 1) → (K (some (vi (-1))) (mkM (iu iv 0 0 1))))) : Z G mX12_room (d + 4) 0 0 0 [vr (some 0), vi x1] [] (mkM iv) K := (Z_iload_n (dX12_room 0) rfl (Z_cS (As := [vi x1]) (S := []) (dX12_room 1) lk_X12_238 rfl (Nat.le_of_ble_eq_true rfl) (Nat.le_of_ble_eq_true rfl) (M_isSide  ((Z_if_ne (dX12_room 2) rfl (fun c1 => (Z_aload_n (dX12_room 7) rfl (Z_iload_n (dX12_room 8) rfl (Z_cVM (As := [vi x1]) (S := []) (dX12_room 9) lk_X12_267 sM0 (by decide) rfl rfl (Nat.le_of_ble_eq_true rfl) (Nat.le_of_ble_eq_true rfl) (M_stuck  (h.1 (b01_n.mp c1)).1 ((Z_iconst (dX12_room 10) ⟨by decide, by decide⟩ (Z_icmp_eq (dX12_room 11) rfl (fun c3 => (Z_aload_n (dX12_room 16) rfl (Z_aload_n (dX12_room 17) rfl (Z_iload_n (dX12_room 18) rfl (Z_cVM (As := [vi x1]) (S := [vr (some 0)]) (dX12_room 19) lk_X12_273 sM0 (by decide) rfl rfl (Nat.le_of_ble_eq_true rfl) (Nat.le_of_ble_eq_true rfl) (M_roomOf  ((h.1 (b01_n.mp c1)).2.1 c3).1 ((h.1 (b01_n.mp c1)).2.1 c3).2.1 (fun v5 r6 c7 => (Z_cVM (As := [vi r6]) (S := []) (dX12_room 20) lk_X12_227 sM0 (by decide) rfl rfl (Nat.le_of_ble_eq_true rfl) (Nat.le_of_ble_eq_true rfl) (M_gives  ((Z_ireturn (dX12_room 21) rfl (((h.1 (b01_n.mp c1)).2.1 c3).2.2 v5 r6 c7)))))))))))) (fun c4 => (Z_aload_n (dX12_room 12) rfl (Z_iconst (dX12_room 13) ⟨by decide, by decide⟩ (Z_cVM (As := [vi 5]) (S := []) (dX12_room 14) lk_X12_221 sM0 (by decide) rfl rfl (Nat.le_of_ble_eq_true rfl) (Nat.le_of_ble_eq_true rfl) (M_refuse  ((Z_goto (dX12_room 15) rfl (Z_ireturn (dX12_room 21) rfl ((h.1 (b01_n.mp c1)).2.2 c4))))))))))))))))) (fun c2 => (Z_aload_n (dX12_room 3) rfl (Z_iconst (dX12_room 4) ⟨by decide, by decide⟩ (Z_cVM (As := [vi 1]) (S := []) (dX12_room 5) lk_X12_221 sM0 (by decide) rfl rfl (Nat.le_of_ble_eq_true rfl) (Nat.le_of_ble_eq_true rfl) (M_refuse  ((Z_ireturn (dX12_room 6) rfl (h.2 (b01_0.mp c2))))))))))))))
set_option maxRecDepth 20000 in
theorem sX12_cannot_0 {G : ZG} {d : Nat} {iv : Nat → Nat → Int} {K : Option AV → AH → Prop} {x1 : Int} (h : (0 ≤ x1 ∧ x1 ≤ 1 → ((okSide iv x1) ∧ ((¬ (stuckM iv x1) = (-1) → (K (some (vi (stuckM iv x1))) (mkM (iu iv 0 0 0)))) ∧ ((stuckM iv x1) = (-1) → (K (some (vi (-1))) (mkM (iu iv 0 0 6))))))) ∧ (¬ (0 ≤ x1 ∧ x1 ≤ 1) → (K (some (vi (-1))) (mkM (iu iv 0 0 1))))) : Z G mX12_cannot (d + 2) 0 0 0 [vr (some 0), vi x1, vu] [] (mkM iv) K := (Z_iload_n (dX12_cannot 0) rfl (Z_cS (As := [vi x1]) (S := []) (dX12_cannot 1) lk_X12_238 rfl (Nat.le_of_ble_eq_true rfl) (Nat.le_of_ble_eq_true rfl) (M_isSide  ((Z_if_ne (dX12_cannot 2) rfl (fun c1 => (Z_aload_n (dX12_cannot 7) rfl (Z_iload_n (dX12_cannot 8) rfl (Z_cVM (As := [vi x1]) (S := []) (dX12_cannot 9) lk_X12_267 sM0 (by decide) rfl rfl (Nat.le_of_ble_eq_true rfl) (Nat.le_of_ble_eq_true rfl) (M_stuck  (h.1 (b01_n.mp c1)).1 ((Z_istore_n (dX12_cannot 10) (Nat.le_of_ble_eq_true rfl) rfl (Z_iload_n (dX12_cannot 11) rfl (Z_iconst (dX12_cannot 12) ⟨by decide, by decide⟩ (Z_icmp_ne (dX12_cannot 13) rfl (fun c3 => (Z_aload_n (dX12_cannot 18) rfl (Z_iload_n (dX12_cannot 19) rfl (Z_cVM (As := [vi (stuckM iv x1)]) (S := []) (dX12_cannot 20) lk_X12_227 sM0 (by decide) rfl rfl (Nat.le_of_ble_eq_true rfl) (Nat.le_of_ble_eq_true rfl) (M_gives  ((Z_ireturn (dX12_cannot 21) rfl ((h.1 (b01_n.mp c1)).2.1 c3)))))))) (fun c4 => (Z_aload_n (dX12_cannot 14) rfl (Z_bipush (dX12_cannot 15) ⟨by decide, by decide⟩ (Z_cVM (As := [vi 6]) (S := []) (dX12_cannot 16) lk_X12_221 sM0 (by decide) rfl rfl (Nat.le_of_ble_eq_true rfl) (Nat.le_of_ble_eq_true rfl) (M_refuse  ((Z_goto (dX12_cannot 17) rfl (Z_ireturn (dX12_cannot 21) rfl ((h.1 (b01_n.mp c1)).2.2 c4))))))))))))))))))) (fun c2 => (Z_aload_n (dX12_cannot 3) rfl (Z_iconst (dX12_cannot 4) ⟨by decide, by decide⟩ (Z_cVM (As := [vi 1]) (S := []) (dX12_cannot 5) lk_X12_221 sM0 (by decide) rfl rfl (Nat.le_of_ble_eq_true rfl) (Nat.le_of_ble_eq_true rfl) (M_refuse  ((Z_ireturn (dX12_cannot 6) rfl (h.2 (b01_0.mp c2))))))))))))))
set_option maxRecDepth 20000 in
theorem sX12_tight_0 {G : ZG} {d : Nat} {iv : Nat → Nat → Int} {K : Option AV → AH → Prop} {x1 x2 : Int} (h : (0 ≤ x1 ∧ x1 ≤ 1 → ((okSide iv x1) ∧ (((stuckM iv x1) = (-1) → ((okSide iv x1) ∧ ((stuckM iv x1 = -1) ∧ ((∀ (v5 : Nat → Nat → Int), (∀ i j, i ≠ 15 → ¬ (i = 0 ∧ j = 20) → v5 i j = iv i j) ∧ leastM iv v5 x1 → (Z G mX12_tight (d + 3) 0 0 39 [vr (some 0), vi x1, vi x2, vi x2, vi 8] [] (mkM v5) K)))))) ∧ (¬ (stuckM iv x1) = (-1) → (K (some (vi (-1))) (mkM (iu iv 0 0 5))))))) ∧ (¬ (0 ≤ x1 ∧ x1 ≤ 1) → (K (some (vi (-1))) (mkM (iu iv 0 0 1))))) : Z G mX12_tight (d + 3) 0 0 0 [vr (some 0), vi x1, vi x2, vu, vu] [] (mkM iv) K := (Z_iload_n (dX12_tight 0) rfl (Z_cS (As := [vi x1]) (S := []) (dX12_tight 1) lk_X12_238 rfl (Nat.le_of_ble_eq_true rfl) (Nat.le_of_ble_eq_true rfl) (M_isSide  ((Z_if_ne (dX12_tight 2) rfl (fun c1 => (Z_aload_n (dX12_tight 7) rfl (Z_iload_n (dX12_tight 8) rfl (Z_cVM (As := [vi x1]) (S := []) (dX12_tight 9) lk_X12_267 sM0 (by decide) rfl rfl (Nat.le_of_ble_eq_true rfl) (Nat.le_of_ble_eq_true rfl) (M_stuck  (h.1 (b01_n.mp c1)).1 ((Z_iconst (dX12_tight 10) ⟨by decide, by decide⟩ (Z_icmp_eq (dX12_tight 11) rfl (fun c3 => (Z_aload_n (dX12_tight 16) rfl (Z_iload_n (dX12_tight 17) rfl (Z_cVM (As := [vi x1]) (S := []) (dX12_tight 18) lk_X12_270 sM0 (by decide) rfl rfl (Nat.le_of_ble_eq_true rfl) (Nat.le_of_ble_eq_true rfl) (M_spread  ((h.1 (b01_n.mp c1)).2.1 c3).1 ((h.1 (b01_n.mp c1)).2.1 c3).2.1 (fun v5 c6 => (Z_iload_n (dX12_tight 19) rfl (Z_istore_n (dX12_tight 20) (Nat.le_of_ble_eq_true rfl) rfl (Z_bipush (dX12_tight 21) ⟨by decide, by decide⟩ (Z_istore (dX12_tight 22) (Nat.le_of_ble_eq_true rfl) rfl (((h.1 (b01_n.mp c1)).2.1 c3).2.2 v5 c6))))))))))) (fun c4 => (Z_aload_n (dX12_tight 12) rfl (Z_iconst (dX12_tight 13) ⟨by decide, by decide⟩ (Z_cVM (As := [vi 5]) (S := []) (dX12_tight 14) lk_X12_221 sM0 (by decide) rfl rfl (Nat.le_of_ble_eq_true rfl) (Nat.le_of_ble_eq_true rfl) (M_refuse  ((Z_ireturn (dX12_tight 15) rfl ((h.1 (b01_n.mp c1)).2.2 c4)))))))))))))))) (fun c2 => (Z_aload_n (dX12_tight 3) rfl (Z_iconst (dX12_tight 4) ⟨by decide, by decide⟩ (Z_cVM (As := [vi 1]) (S := []) (dX12_tight 5) lk_X12_221 sM0 (by decide) rfl rfl (Nat.le_of_ble_eq_true rfl) (Nat.le_of_ble_eq_true rfl) (M_refuse  ((Z_ireturn (dX12_tight 6) rfl (h.2 (b01_0.mp c2))))))))))))))
set_option maxRecDepth 20000 in
theorem sX12_tight_39 {G : ZG} {d : Nat} {iv : Nat → Nat → Int} {K : Option AV → AH → Prop} {x1 x2 x3 x4 : Int} (h : (0 ≤ x1 ∧ x1 < (2 : Nat)) ∧ (((iv 7 ((x1).toNat)) ≤ x4 → (K (some (vi (-1))) (mkM (iu iv 0 0 6)))) ∧ (x4 < (iv 7 ((x1).toNat)) → ((x2 < 0 → (K (some (vi (-1))) (mkM (iu iv 0 0 6)))) ∧ (0 ≤ x2 → ((0 ≤ x1 ∧ x1 ≤ 1 ∧ -1000 ≤ x4 ∧ x4 ≤ 1000) ∧ ((0 ≤ (400 * x1 + x4) ∧ (400 * x1 + x4) < (800 : Nat)) ∧ ((-2147483648 ≤ (x4 - 8) ∧ (x4 - 8) ≤ 2147483647) ∧ ((0 ≤ x1 ∧ x1 ≤ 1 ∧ -1000 ≤ (x4 - 8) ∧ (x4 - 8) ≤ 1000) ∧ ((0 ≤ (400 * x1 + (x4 - 8)) ∧ (400 * x1 + (x4 - 8)) < (800 : Nat)) ∧ ((0 ≤ x1 ∧ x1 ≤ 1 ∧ -1000 ≤ x4 ∧ x4 ≤ 1000) ∧ ((0 ≤ (400 * x1 + x4) ∧ (400 * x1 + x4) < (800 : Nat)) ∧ ((-2147483648 ≤ ((iv 15 ((400 * x1 + (x4 - 8)).toNat)) + (iv 8 ((400 * x1 + x4).toNat))) ∧ ((iv 15 ((400 * x1 + (x4 - 8)).toNat)) + (iv 8 ((400 * x1 + x4).toNat))) ≤ 2147483647) ∧ ((-2147483648 ≤ (x4 - 8) ∧ (x4 - 8) ≤ 2147483647) ∧ ((0 ≤ x1 ∧ x1 ≤ 1 ∧ -1000 ≤ (x4 - 8) ∧ (x4 - 8) ≤ 1000) ∧ ((0 ≤ (400 * x1 + (x4 - 8)) ∧ (400 * x1 + (x4 - 8)) < (800 : Nat)) ∧ ((-2147483648 ≤ (((iv 15 ((400 * x1 + (x4 - 8)).toNat)) + (iv 8 ((400 * x1 + x4).toNat))) + (iv 8 ((400 * x1 + (x4 - 8)).toNat))) ∧ (((iv 15 ((400 * x1 + (x4 - 8)).toNat)) + (iv 8 ((400 * x1 + x4).toNat))) + (iv 8 ((400 * x1 + (x4 - 8)).toNat))) ≤ 2147483647) ∧ ((-2147483648 ≤ ((((iv 15 ((400 * x1 + (x4 - 8)).toNat)) + (iv 8 ((400 * x1 + x4).toNat))) + (iv 8 ((400 * x1 + (x4 - 8)).toNat))) + (iv 0 5)) ∧ ((((iv 15 ((400 * x1 + (x4 - 8)).toNat)) + (iv 8 ((400 * x1 + x4).toNat))) + (iv 8 ((400 * x1 + (x4 - 8)).toNat))) + (iv 0 5)) ≤ 2147483647) ∧ (((iv 15 ((400 * x1 + x4).toNat)) = ((((iv 15 ((400 * x1 + (x4 - 8)).toNat)) + (iv 8 ((400 * x1 + x4).toNat))) + (iv 8 ((400 * x1 + (x4 - 8)).toNat))) + (iv 0 5)) → ((¬ x3 = 0 → ((-2147483648 ≤ (x3 + (-1)) ∧ (x3 + (-1)) ≤ 2147483647) ∧ ((-2147483648 ≤ (x4 + 1) ∧ (x4 + 1) ≤ 2147483647) ∧ (Z G mX12_tight (d + 3) 0 0 39 [vr (some 0), vi x1, vi x2, vi (x3 + (-1)), vi (x4 + 1)] [] (mkM iv) K)))) ∧ (x3 = 0 → (K (some (vi x4)) (mkM (iu iv 0 0 0)))))) ∧ (¬ (iv 15 ((400 * x1 + x4).toNat)) = ((((iv 15 ((400 * x1 + (x4 - 8)).toNat)) + (iv 8 ((400 * x1 + x4).toNat))) + (iv 8 ((400 * x1 + (x4 - 8)).toNat))) + (iv 0 5)) → ((-2147483648 ≤ (x4 + 1) ∧ (x4 + 1) ≤ 2147483647) ∧ (Z G mX12_tight (d + 3) 0 0 39 [vr (some 0), vi x1, vi x2, vi x3, vi (x4 + 1)] [] (mkM iv) K)))))))))))))))))))))) : Z G mX12_tight (d + 3) 0 0 39 [vr (some 0), vi x1, vi x2, vi x3, vi x4] [] (mkM iv) K := (Z_iload (dX12_tight 23) rfl (Z_aload_n (dX12_tight 24) rfl (Z_gRM (r := (some 7)) (dX12_tight 25) lk_X12_39 sM0 rfl rfl (Z_iload_n (dX12_tight 26) rfl (Z_ilM (x := (iv 7 ((x1).toNat))) (dX12_tight 27) sM7 h.1 rfl (Z_icmp_ge (dX12_tight 28) rfl (fun c1 => (Z_aload_n (dX12_tight 75) rfl (Z_bipush (dX12_tight 76) ⟨by decide, by decide⟩ (Z_cVM (As := [vi 6]) (S := []) (dX12_tight 77) lk_X12_221 sM0 (by decide) rfl rfl (Nat.le_of_ble_eq_true rfl) (Nat.le_of_ble_eq_true rfl) (M_refuse  ((Z_ireturn (dX12_tight 78) rfl (h.2.1 c1)))))))) (fun c2 => (Z_iload_n (dX12_tight 29) rfl (Z_if_lt (dX12_tight 30) rfl (fun c3 => (Z_aload_n (dX12_tight 75) rfl (Z_bipush (dX12_tight 76) ⟨by decide, by decide⟩ (Z_cVM (As := [vi 6]) (S := []) (dX12_tight 77) lk_X12_221 sM0 (by decide) rfl rfl (Nat.le_of_ble_eq_true rfl) (Nat.le_of_ble_eq_true rfl) (M_refuse  ((Z_ireturn (dX12_tight 78) rfl ((h.2.2 c2).1 c3)))))))) (fun c4 => (Z_aload_n (dX12_tight 31) rfl (Z_gRM (r := (some 15)) (dX12_tight 32) lk_X12_63 sM0 rfl rfl (Z_iload_n (dX12_tight 33) rfl (Z_iload (dX12_tight 34) rfl (Z_cS (As := [vi x1, vi x4]) (S := [vr (some 15)]) (dX12_tight 35) lk_X12_245 rfl (Nat.le_of_ble_eq_true rfl) (Nat.le_of_ble_eq_true rfl) (M_at  ((h.2.2 c2).2 c4).1 ((Z_ilM (x := (iv 15 ((400 * x1 + x4).toNat))) (dX12_tight 36) sM15 ((h.2.2 c2).2 c4).2.1 rfl (Z_aload_n (dX12_tight 37) rfl (Z_gRM (r := (some 15)) (dX12_tight 38) lk_X12_63 sM0 rfl rfl (Z_iload_n (dX12_tight 39) rfl (Z_iload (dX12_tight 40) rfl (Z_bipush (dX12_tight 41) ⟨by decide, by decide⟩ (Z_isub (dX12_tight 42) ((h.2.2 c2).2 c4).2.2.1 (Z_cS (As := [vi x1, vi (x4 - 8)]) (S := [vr (some 15), vi (iv 15 ((400 * x1 + x4).toNat))]) (dX12_tight 43) lk_X12_245 rfl (Nat.le_of_ble_eq_true rfl) (Nat.le_of_ble_eq_true rfl) (M_at  ((h.2.2 c2).2 c4).2.2.2.1 ((Z_ilM (x := (iv 15 ((400 * x1 + (x4 - 8)).toNat))) (dX12_tight 44) sM15 ((h.2.2 c2).2 c4).2.2.2.2.1 rfl (Z_aload_n (dX12_tight 45) rfl (Z_gRM (r := (some 8)) (dX12_tight 46) lk_X12_42 sM0 rfl rfl (Z_iload_n (dX12_tight 47) rfl (Z_iload (dX12_tight 48) rfl (Z_cS (As := [vi x1, vi x4]) (S := [vr (some 8), vi (iv 15 ((400 * x1 + (x4 - 8)).toNat)), vi (iv 15 ((400 * x1 + x4).toNat))]) (dX12_tight 49) lk_X12_245 rfl (Nat.le_of_ble_eq_true rfl) (Nat.le_of_ble_eq_true rfl) (M_at  ((h.2.2 c2).2 c4).2.2.2.2.2.1 ((Z_ilM (x := (iv 8 ((400 * x1 + x4).toNat))) (dX12_tight 50) sM8 ((h.2.2 c2).2 c4).2.2.2.2.2.2.1 rfl (Z_iadd (dX12_tight 51) ((h.2.2 c2).2 c4).2.2.2.2.2.2.2.1 (Z_aload_n (dX12_tight 52) rfl (Z_gRM (r := (some 8)) (dX12_tight 53) lk_X12_42 sM0 rfl rfl (Z_iload_n (dX12_tight 54) rfl (Z_iload (dX12_tight 55) rfl (Z_bipush (dX12_tight 56) ⟨by decide, by decide⟩ (Z_isub (dX12_tight 57) ((h.2.2 c2).2 c4).2.2.2.2.2.2.2.2.1 (Z_cS (As := [vi x1, vi (x4 - 8)]) (S := [vr (some 8), vi ((iv 15 ((400 * x1 + (x4 - 8)).toNat)) + (iv 8 ((400 * x1 + x4).toNat))), vi (iv 15 ((400 * x1 + x4).toNat))]) (dX12_tight 58) lk_X12_245 rfl (Nat.le_of_ble_eq_true rfl) (Nat.le_of_ble_eq_true rfl) (M_at  ((h.2.2 c2).2 c4).2.2.2.2.2.2.2.2.2.1 ((Z_ilM (x := (iv 8 ((400 * x1 + (x4 - 8)).toNat))) (dX12_tight 59) sM8 ((h.2.2 c2).2 c4).2.2.2.2.2.2.2.2.2.2.1 rfl (Z_iadd (dX12_tight 60) ((h.2.2 c2).2 c4).2.2.2.2.2.2.2.2.2.2.2.1 (Z_aload_n (dX12_tight 61) rfl (Z_gIM (x := (iv 0 5)) (dX12_tight 62) lk_X12_20 sM0 (Or.inl rfl) rfl (Z_iadd (dX12_tight 63) ((h.2.2 c2).2 c4).2.2.2.2.2.2.2.2.2.2.2.2.1 (Z_icmp_eq (dX12_tight 64) rfl (fun c5 => (Z_iload_n (dX12_tight 66) rfl (Z_if_ne (dX12_tight 67) rfl (fun c7 => (Z_iinc (dX12_tight 72) rfl (Nat.le_of_ble_eq_true rfl) ((((h.2.2 c2).2 c4).2.2.2.2.2.2.2.2.2.2.2.2.2.1 c5).1 c7).1 rfl (Z_iinc (dX12_tight 73) rfl (Nat.le_of_ble_eq_true rfl) ((((h.2.2 c2).2 c4).2.2.2.2.2.2.2.2.2.2.2.2.2.1 c5).1 c7).2.1 rfl (Z_goto (dX12_tight 74) rfl ((((h.2.2 c2).2 c4).2.2.2.2.2.2.2.2.2.2.2.2.2.1 c5).1 c7).2.2)))) (fun c8 => (Z_aload_n (dX12_tight 68) rfl (Z_iload (dX12_tight 69) rfl (Z_cVM (As := [vi x4]) (S := []) (dX12_tight 70) lk_X12_227 sM0 (by decide) rfl rfl (Nat.le_of_ble_eq_true rfl) (Nat.le_of_ble_eq_true rfl) (M_gives  ((Z_ireturn (dX12_tight 71) rfl ((((h.2.2 c2).2 c4).2.2.2.2.2.2.2.2.2.2.2.2.2.1 c5).2 c8))))))))))) (fun c6 => (Z_goto (dX12_tight 65) rfl (Z_iinc (dX12_tight 73) rfl (Nat.le_of_ble_eq_true rfl) (((h.2.2 c2).2 c4).2.2.2.2.2.2.2.2.2.2.2.2.2.2 c6).1 rfl (Z_goto (dX12_tight 74) rfl (((h.2.2 c2).2 c4).2.2.2.2.2.2.2.2.2.2.2.2.2.2 c6).2))))))))))))))))))))))))))))))))))))))))))))))))))))))))
theorem M_tight {G : ZG} {d : Nat} {iv : Nat → Nat → Int} {K : Option AV → AH → Prop} {x1 x2 : Int} (hx2 : x2 ≤ 2147483647) (hok : 0 ≤ x1 → x1 ≤ 1 → okSide iv x1) (k1 : ¬ (0 ≤ x1 ∧ x1 ≤ 1) → K (some (vi (-1))) (mkM (iu iv 0 0 1))) (k5 : (0 ≤ x1 ∧ x1 ≤ 1) → ¬ stuckM iv x1 = -1 → K (some (vi (-1))) (mkM (iu iv 0 0 5))) (k0 : (0 ≤ x1 ∧ x1 ≤ 1) → stuckM iv x1 = -1 → ∀ v, (∀ i j, i ≠ 15 → ¬ (i = 0 ∧ j = 20) → v i j = iv i j) → leastM iv v x1 → K (some (vi (nthf (fun k => v 15 (400 * x1 + k).toNat = v 15 (400 * x1 + (k - 8)).toNat + iv 8 (400 * x1 + k).toNat + iv 8 (400 * x1 + (k - 8)).toNat + iv 0 5) x2 8 (iv 7 x1.toNat - 8).toNat))) (mkM (iu v 0 0 (if nthf (fun k => v 15 (400 * x1 + k).toNat = v 15 (400 * x1 + (k - 8)).toNat + iv 8 (400 * x1 + k).toNat + iv 8 (400 * x1 + (k - 8)).toNat + iv 0 5) x2 8 (iv 7 x1.toNat - 8).toNat = -1 then 6 else 0)))) :
    Z G mX12_tight (d + 3) 0 0 0 [vr (some 0), vi x1, vi x2, vu, vu] [] (mkM iv) K := by
  by_cases g : 0 ≤ x1 ∧ x1 ≤ 1
  · have hs := hok g.1 g.2
    obtain ⟨o1, o2, o3, o4⟩ := id hs
    apply sX12_tight_0
    refine ⟨fun _ => ⟨hs, fun h5 => ⟨hs, h5, fun v c => ?_⟩, fun h5 => k5 g h5⟩, fun h => absurd g h⟩
    obtain ⟨c1, c2⟩ := c
    have kk := k0 g h5 v c1 c2
    clear k0 k1 k5
    have ub := leastM_ub hs h5 c2
    have e7 : v 7 = iv 7 := funext fun j => c1 7 j (by decide) (by omega)
    have e8 : v 8 = iv 8 := funext fun j => c1 8 j (by decide) (by omega)
    have e5 : v 0 5 = iv 0 5 := c1 0 5 (by decide) (by omega)
    have fin : ∀ p l, iv 7 x1.toNat ≤ p ∨ x2 < 0 → K (some (vi (-1))) (mkM (iu v 0 0 6)) → Z G mX12_tight (d + 3) 0 0 39 [vr (some 0), vi x1, vi x2, vi l, vi p] [] (mkM v) K := by
      intro p l hp kk
      apply sX12_tight_39
      rw [e7]
      refine ⟨by omega, fun h => kk, fun h => ⟨fun h2 => kk, fun h2 => by omega⟩⟩
    by_cases hneg : x2 < 0
    · rw [nthf_neg _ _ _ hneg, if_pos rfl] at kk
      exact fin 8 x2 (Or.inr hneg) kk
    by_cases hn : iv 7 x1.toNat ≤ 8
    · rw [show (iv 7 x1.toNat - 8).toNat = 0 by omega] at kk
      exact fin 8 x2 (Or.inl hn) kk
    refine lp_up (P := fun p l => Z G mX12_tight (d + 3) 0 0 39 [vr (some 0), vi x1, vi x2, vi l, vi p] [] (mkM v) K) (iv 7 x1.toNat) (fun p l => 8 ≤ p ∧ (0 ≤ l ∧ l ≤ x2) ∧ K (some (vi (nthf (fun k => v 15 (400 * x1 + k).toNat = v 15 (400 * x1 + (k - 8)).toNat + iv 8 (400 * x1 + k).toNat + iv 8 (400 * x1 + (k - 8)).toNat + iv 0 5) l p (iv 7 x1.toNat - p).toNat))) (mkM (iu v 0 0 (if nthf (fun k => v 15 (400 * x1 + k).toNat = v 15 (400 * x1 + (k - 8)).toNat + iv 8 (400 * x1 + k).toNat + iv 8 (400 * x1 + (k - 8)).toNat + iv 0 5) l p (iv 7 x1.toNat - p).toNat = -1 then 6 else 0)))) ?_ ?_ 8 x2 (by omega) ⟨by omega, by omega, kk⟩
    · rintro l ⟨-, -, kk⟩
      rw [show (iv 7 x1.toNat - iv 7 x1.toNat).toNat = 0 by omega] at kk
      exact fin _ l (Or.inl (by omega)) kk
    · rintro p l hp ⟨hp8, hl, kk⟩ ih
      rw [show (iv 7 x1.toNat - p).toNat = (iv 7 x1.toNat - (p + 1)).toNat + 1 by omega] at kk
      unfold nthf at kk
      have b1 := ub p (by omega) (by omega)
      have b2 := ub (p - 8) (by omega) (by omega)
      have b3 := o4 p (by omega) (by omega)
      have b4 := o4 (p - 8) (by omega) (by omega)
      apply sX12_tight_39
      rw [e7, e8, e5]
      refine ⟨by omega, fun h => by omega, fun _ => ⟨fun h => by omega, fun _ => ⟨by omega, by omega, by omega, by omega, by omega, by omega, by omega, by omega, by omega, by omega, by omega, by omega, by omega, fun h => ?_, fun h => ?_⟩⟩⟩
      · rw [if_pos (by omega)] at kk
        refine ⟨fun h0 => ?_, fun h0 => ?_⟩
        · rw [if_neg h0] at kk
          exact ⟨by omega, by omega, ih _ ⟨by omega, by omega, by rw [show l + -1 = l - 1 by omega]; exact kk⟩⟩
        · rw [if_pos h0, if_neg (by omega)] at kk
          exact kk
      · rw [if_neg (by omega)] at kk
        exact ⟨by omega, ih _ ⟨by omega, by omega, kk⟩⟩
  · have k1 := k1 g
    apply sX12_tight_0
    exact ⟨fun h => absurd h g, fun _ => k1⟩
set_option maxRecDepth 20000 in
theorem sX12_softer_0 {G : ZG} {d : Nat} {iv : Nat → Nat → Int} {K : Option AV → AH → Prop} {x1 : Int} (h : (0 ≤ x1 ∧ x1 ≤ 1 → (Z G mX12_softer (d + 1) 0 0 15 [vr (some 0), vi x1, vi 0, vu, vu] [] (mkM iv) K)) ∧ (¬ (0 ≤ x1 ∧ x1 ≤ 1) → (K (some (vi (-1))) (mkM (iu iv 0 0 1))))) : Z G mX12_softer (d + 1) 0 0 0 [vr (some 0), vi x1, vu, vu, vu] [] (mkM iv) K := (Z_iload_n (dX12_softer 0) rfl (Z_cS (As := [vi x1]) (S := []) (dX12_softer 1) lk_X12_238 rfl (Nat.le_of_ble_eq_true rfl) (Nat.le_of_ble_eq_true rfl) (M_isSide  ((Z_if_ne (dX12_softer 2) rfl (fun c1 => (Z_iconst (dX12_softer 7) ⟨by decide, by decide⟩ (Z_istore_n (dX12_softer 8) (Nat.le_of_ble_eq_true rfl) rfl (h.1 (b01_n.mp c1))))) (fun c2 => (Z_aload_n (dX12_softer 3) rfl (Z_iconst (dX12_softer 4) ⟨by decide, by decide⟩ (Z_cVM (As := [vi 1]) (S := []) (dX12_softer 5) lk_X12_221 sM0 (by decide) rfl rfl (Nat.le_of_ble_eq_true rfl) (Nat.le_of_ble_eq_true rfl) (M_refuse  ((Z_ireturn (dX12_softer 6) rfl (h.2 (b01_0.mp c2))))))))))))))
set_option maxRecDepth 20000 in
theorem sX12_softer_15 {G : ZG} {d : Nat} {iv : Nat → Nat → Int} {K : Option AV → AH → Prop} {x1 x2 : Int} (h : (40 < x2 → (K (some (vi (-1))) (mkM (iu iv 0 0 6)))) ∧ (x2 ≤ 40 → (Z G mX12_softer (d + 1) 0 0 27 [vr (some 0), vi x1, vi x2, vi 1, vi 8] [] (mkM iv) K))) : Z G mX12_softer (d + 1) 0 0 15 [vr (some 0), vi x1, vi x2, vu, vu] [] (mkM iv) K := (Z_iload_n (dX12_softer 9) rfl (Z_bipush (dX12_softer 10) ⟨by decide, by decide⟩ (Z_icmp_gt (dX12_softer 11) rfl (fun c1 => (Z_aload_n (dX12_softer 69) rfl (Z_bipush (dX12_softer 70) ⟨by decide, by decide⟩ (Z_cVM (As := [vi 6]) (S := []) (dX12_softer 71) lk_X12_221 sM0 (by decide) rfl rfl (Nat.le_of_ble_eq_true rfl) (Nat.le_of_ble_eq_true rfl) (M_refuse  ((Z_ireturn (dX12_softer 72) rfl (h.1 c1)))))))) (fun c2 => (Z_iconst (dX12_softer 12) ⟨by decide, by decide⟩ (Z_istore_n (dX12_softer 13) (Nat.le_of_ble_eq_true rfl) rfl (Z_bipush (dX12_softer 14) ⟨by decide, by decide⟩ (Z_istore (dX12_softer 15) (Nat.le_of_ble_eq_true rfl) rfl (h.2 c2)))))))))
set_option maxRecDepth 20000 in
theorem sX12_softer_27 {G : ZG} {d : Nat} {iv : Nat → Nat → Int} {K : Option AV → AH → Prop} {x1 x2 x3 x4 : Int} (h : (0 ≤ x1 ∧ x1 < (2 : Nat)) ∧ (((iv 7 ((x1).toNat)) ≤ x4 → ((x3 = 0 → ((-2147483648 ≤ (x2 + 1) ∧ (x2 + 1) ≤ 2147483647) ∧ (Z G mX12_softer (d + 1) 0 0 15 [vr (some 0), vi x1, vi (x2 + 1), vu, vu] [] (mkM iv) K))) ∧ (¬ x3 = 0 → (K (some (vi x2)) (mkM (iu iv 0 0 0)))))) ∧ (x4 < (iv 7 ((x1).toNat)) → ((x3 = 0 → ((-2147483648 ≤ (x4 + 1) ∧ (x4 + 1) ≤ 2147483647) ∧ (Z G mX12_softer (d + 1) 0 0 27 [vr (some 0), vi x1, vi x2, vi 0, vi (x4 + 1)] [] (mkM iv) K))) ∧ (¬ x3 = 0 → ((-2147483648 ≤ (40 - x2) ∧ (40 - x2) ≤ 2147483647) ∧ ((0 ≤ x1 ∧ x1 ≤ 1 ∧ -1000 ≤ x4 ∧ x4 ≤ 1000) ∧ ((0 ≤ (400 * x1 + x4) ∧ (400 * x1 + x4) < (800 : Nat)) ∧ ((-2147483648 ≤ (40 - x2) ∧ (40 - x2) ≤ 2147483647) ∧ ((-2147483648 ≤ (x4 - 8) ∧ (x4 - 8) ≤ 2147483647) ∧ ((0 ≤ x1 ∧ x1 ≤ 1 ∧ -1000 ≤ (x4 - 8) ∧ (x4 - 8) ≤ 1000) ∧ ((0 ≤ (400 * x1 + (x4 - 8)) ∧ (400 * x1 + (x4 - 8)) < (800 : Nat)) ∧ ((-2147483648 ≤ ((min (40 - x2) (iv 8 ((400 * x1 + x4).toNat))) + (min (40 - x2) (iv 8 ((400 * x1 + (x4 - 8)).toNat)))) ∧ ((min (40 - x2) (iv 8 ((400 * x1 + x4).toNat))) + (min (40 - x2) (iv 8 ((400 * x1 + (x4 - 8)).toNat)))) ≤ 2147483647) ∧ ((-2147483648 ≤ (((min (40 - x2) (iv 8 ((400 * x1 + x4).toNat))) + (min (40 - x2) (iv 8 ((400 * x1 + (x4 - 8)).toNat)))) + (iv 0 5)) ∧ (((min (40 - x2) (iv 8 ((400 * x1 + x4).toNat))) + (min (40 - x2) (iv 8 ((400 * x1 + (x4 - 8)).toNat)))) + (iv 0 5)) ≤ 2147483647) ∧ ((-2147483648 ≤ (8 * (iv 0 6)) ∧ (8 * (iv 0 6)) ≤ 2147483647) ∧ (((8 * (iv 0 6)) < (((min (40 - x2) (iv 8 ((400 * x1 + x4).toNat))) + (min (40 - x2) (iv 8 ((400 * x1 + (x4 - 8)).toNat)))) + (iv 0 5)) → ((-2147483648 ≤ (x4 + 1) ∧ (x4 + 1) ≤ 2147483647) ∧ (Z G mX12_softer (d + 1) 0 0 27 [vr (some 0), vi x1, vi x2, vi 0, vi (x4 + 1)] [] (mkM iv) K))) ∧ ((((min (40 - x2) (iv 8 ((400 * x1 + x4).toNat))) + (min (40 - x2) (iv 8 ((400 * x1 + (x4 - 8)).toNat)))) + (iv 0 5)) ≤ (8 * (iv 0 6)) → ((-2147483648 ≤ (x4 + 1) ∧ (x4 + 1) ≤ 2147483647) ∧ (Z G mX12_softer (d + 1) 0 0 27 [vr (some 0), vi x1, vi x2, vi 1, vi (x4 + 1)] [] (mkM iv) K))))))))))))))))))) : Z G mX12_softer (d + 1) 0 0 27 [vr (some 0), vi x1, vi x2, vi x3, vi x4] [] (mkM iv) K := (Z_iload (dX12_softer 16) rfl (Z_aload_n (dX12_softer 17) rfl (Z_gRM (r := (some 7)) (dX12_softer 18) lk_X12_39 sM0 rfl rfl (Z_iload_n (dX12_softer 19) rfl (Z_ilM (x := (iv 7 ((x1).toNat))) (dX12_softer 20) sM7 h.1 rfl (Z_icmp_ge (dX12_softer 21) rfl (fun c1 => (Z_iload_n (dX12_softer 61) rfl (Z_if_eq (dX12_softer 62) rfl (fun c3 => (Z_iinc (dX12_softer 67) rfl (Nat.le_of_ble_eq_true rfl) ((h.2.1 c1).1 c3).1 rfl (Z_goto (dX12_softer 68) rfl (Z.fg (L' := [vr (some 0), vi x1, vi (x2 + 1), vu, vu]) (L := [vr (some 0), vi x1, vi (x2 + 1), vi x3, vi x4]) ⟨Or.inl rfl, ⟨Or.inl rfl, ⟨Or.inl rfl, ⟨Or.inr rfl, ⟨Or.inr rfl, trivial⟩⟩⟩⟩⟩ ((h.2.1 c1).1 c3).2)))) (fun c4 => (Z_aload_n (dX12_softer 63) rfl (Z_iload_n (dX12_softer 64) rfl (Z_cVM (As := [vi x2]) (S := []) (dX12_softer 65) lk_X12_227 sM0 (by decide) rfl rfl (Nat.le_of_ble_eq_true rfl) (Nat.le_of_ble_eq_true rfl) (M_gives  ((Z_ireturn (dX12_softer 66) rfl ((h.2.1 c1).2 c4))))))))))) (fun c2 => (Z_iload_n (dX12_softer 22) rfl (Z_if_eq (dX12_softer 23) rfl (fun c5 => (Z_iconst (dX12_softer 57) ⟨by decide, by decide⟩ (Z_istore_n (dX12_softer 58) (Nat.le_of_ble_eq_true rfl) rfl (Z_iinc (dX12_softer 59) rfl (Nat.le_of_ble_eq_true rfl) ((h.2.2 c2).1 c5).1 rfl (Z_goto (dX12_softer 60) rfl ((h.2.2 c2).1 c5).2))))) (fun c6 => (Z_bipush (dX12_softer 24) ⟨by decide, by decide⟩ (Z_iload_n (dX12_softer 25) rfl (Z_isub (dX12_softer 26) ((h.2.2 c2).2 c6).1 (Z_aload_n (dX12_softer 27) rfl (Z_gRM (r := (some 8)) (dX12_softer 28) lk_X12_42 sM0 rfl rfl (Z_iload_n (dX12_softer 29) rfl (Z_iload (dX12_softer 30) rfl (Z_cS (As := [vi x1, vi x4]) (S := [vr (some 8), vi (40 - x2)]) (dX12_softer 31) lk_X12_245 rfl (Nat.le_of_ble_eq_true rfl) (Nat.le_of_ble_eq_true rfl) (M_at  ((h.2.2 c2).2 c6).2.1 ((Z_ilM (x := (iv 8 ((400 * x1 + x4).toNat))) (dX12_softer 32) sM8 ((h.2.2 c2).2 c6).2.2.1 rfl (Z_min (dX12_softer 33) lk_X12_276 mt_min_s mt_ini mt_min_c (Nat.le_of_ble_eq_true rfl) (Z_bipush (dX12_softer 34) ⟨by decide, by decide⟩ (Z_iload_n (dX12_softer 35) rfl (Z_isub (dX12_softer 36) ((h.2.2 c2).2 c6).2.2.2.1 (Z_aload_n (dX12_softer 37) rfl (Z_gRM (r := (some 8)) (dX12_softer 38) lk_X12_42 sM0 rfl rfl (Z_iload_n (dX12_softer 39) rfl (Z_iload (dX12_softer 40) rfl (Z_bipush (dX12_softer 41) ⟨by decide, by decide⟩ (Z_isub (dX12_softer 42) ((h.2.2 c2).2 c6).2.2.2.2.1 (Z_cS (As := [vi x1, vi (x4 - 8)]) (S := [vr (some 8), vi (40 - x2), vi (min (40 - x2) (iv 8 ((400 * x1 + x4).toNat)))]) (dX12_softer 43) lk_X12_245 rfl (Nat.le_of_ble_eq_true rfl) (Nat.le_of_ble_eq_true rfl) (M_at  ((h.2.2 c2).2 c6).2.2.2.2.2.1 ((Z_ilM (x := (iv 8 ((400 * x1 + (x4 - 8)).toNat))) (dX12_softer 44) sM8 ((h.2.2 c2).2 c6).2.2.2.2.2.2.1 rfl (Z_min (dX12_softer 45) lk_X12_276 mt_min_s mt_ini mt_min_c (Nat.le_of_ble_eq_true rfl) (Z_iadd (dX12_softer 46) ((h.2.2 c2).2 c6).2.2.2.2.2.2.2.1 (Z_aload_n (dX12_softer 47) rfl (Z_gIM (x := (iv 0 5)) (dX12_softer 48) lk_X12_20 sM0 (Or.inl rfl) rfl (Z_iadd (dX12_softer 49) ((h.2.2 c2).2 c6).2.2.2.2.2.2.2.2.1 (Z_bipush (dX12_softer 50) ⟨by decide, by decide⟩ (Z_aload_n (dX12_softer 51) rfl (Z_gIM (x := (iv 0 6)) (dX12_softer 52) lk_X12_24 sM0 (Or.inl rfl) rfl (Z_imul (dX12_softer 53) ((h.2.2 c2).2 c6).2.2.2.2.2.2.2.2.2.1 (Z_icmp_gt (dX12_softer 54) rfl (fun c7 => (Z_iconst (dX12_softer 57) ⟨by decide, by decide⟩ (Z_istore_n (dX12_softer 58) (Nat.le_of_ble_eq_true rfl) rfl (Z_iinc (dX12_softer 59) rfl (Nat.le_of_ble_eq_true rfl) (((h.2.2 c2).2 c6).2.2.2.2.2.2.2.2.2.2.1 c7).1 rfl (Z_goto (dX12_softer 60) rfl (((h.2.2 c2).2 c6).2.2.2.2.2.2.2.2.2.2.1 c7).2))))) (fun c8 => (Z_iconst (dX12_softer 55) ⟨by decide, by decide⟩ (Z_goto (dX12_softer 56) rfl (Z_istore_n (dX12_softer 58) (Nat.le_of_ble_eq_true rfl) rfl (Z_iinc (dX12_softer 59) rfl (Nat.le_of_ble_eq_true rfl) (((h.2.2 c2).2 c6).2.2.2.2.2.2.2.2.2.2.2 c8).1 rfl (Z_goto (dX12_softer 60) rfl (((h.2.2 c2).2 c6).2.2.2.2.2.2.2.2.2.2.2 c8).2)))))))))))))))))))))))))))))))))))))))))))))))))))
def nearM (iv : Nat → Nat → Int) (x s : Int) : Int := ffirst (fun k => 8 * iv 0 6 < min (40 - s) (iv 8 (400 * x + k).toNat) + min (40 - s) (iv 8 (400 * x + (k - 8)).toNat) + iv 0 5) 8 (iv 7 x.toNat - 8).toNat
def softM (iv : Nat → Nat → Int) (x : Int) : Int := ffirst (fun s => nearM iv x s = -1) 0 41
theorem ffirst_snoc {P : Int → Prop} [DecidablePred P] : ∀ (m : Nat) (a : Int), 0 ≤ a → ffirst P a (m + 1) = if ffirst P a m = -1 then (if P (a + m) then a + m else -1) else ffirst P a m
  | 0, a, h => by
    show (if P a then a else -1) = if (-1 : Int) = -1 then (if P (a + (0 : Nat)) then a + (0 : Nat) else -1) else -1
    rw [if_pos rfl, show a + ((0 : Nat) : Int) = a by omega]
  | m + 1, a, h => by
    rw [ffirst]
    have ih := ffirst_snoc (P := P) m (a + 1) (by omega)
    rw [ih, show ffirst P a (m + 1) = if P a then a else ffirst P (a + 1) m from rfl]
    by_cases hp : P a
    · rw [if_pos hp, if_pos hp, if_neg (by omega)]
    · rw [if_neg hp, if_neg hp, show a + 1 + (m : Int) = a + ((m + 1 : Nat) : Int) by omega]
theorem M_softer {G : ZG} {d : Nat} {iv : Nat → Nat → Int} {K : Option AV → AH → Prop} {x1 : Int} (hok : 0 ≤ x1 → x1 ≤ 1 → okSide iv x1) (k1 : ¬ (0 ≤ x1 ∧ x1 ≤ 1) → K (some (vi (-1))) (mkM (iu iv 0 0 1))) (k0 : (0 ≤ x1 ∧ x1 ≤ 1) → K (some (vi (softM iv x1))) (mkM (iu iv 0 0 (if softM iv x1 = -1 then 6 else 0)))) :
    Z G mX12_softer (d + 1) 0 0 0 [vr (some 0), vi x1, vu, vu, vu] [] (mkM iv) K := by
  by_cases g : 0 ≤ x1 ∧ x1 ≤ 1
  · obtain ⟨o1, o2, o3, o4⟩ := hok g.1 g.2
    have kk := k0 g
    apply sX12_softer_0
    refine ⟨fun _ => ?_, fun h => absurd g h⟩
    unfold softM at kk
    refine lp_up (P := fun s (_ : Unit) => Z G mX12_softer (d + 1) 0 0 15 [vr (some 0), vi x1, vi s, vu, vu] [] (mkM iv) K) 41 (fun s _ => 0 ≤ s ∧ K (some (vi (ffirst (fun s => nearM iv x1 s = -1) s (41 - s).toNat))) (mkM (iu iv 0 0 (if ffirst (fun s => nearM iv x1 s = -1) s (41 - s).toNat = -1 then 6 else 0)))) ?_ ?_ 0 () (by omega) ⟨by omega, by rw [show ((41 : Int) - 0).toNat = 41 from rfl]; exact kk⟩
    · rintro - ⟨-, kk⟩
      apply sX12_softer_15
      exact ⟨fun h => kk, fun h => by omega⟩
    · rintro s - hs ⟨hs0, kk⟩ ih
      rw [show (41 - s).toNat = (41 - (s + 1)).toNat + 1 by omega] at kk
      unfold ffirst at kk
      apply sX12_softer_15
      refine ⟨fun h => by omega, fun _ => ?_⟩
      have fin : ∀ k, iv 7 x1.toNat ≤ k → Z G mX12_softer (d + 1) 0 0 27 [vr (some 0), vi x1, vi s, vi (b01 (nearM iv x1 s = -1)), vi k] [] (mkM iv) K := by
        intro k hk
        apply sX12_softer_27
        refine ⟨by omega, fun _ => ⟨fun h => ⟨by omega, ih () ⟨by omega, ?_⟩⟩, fun h => ?_⟩, fun h => by omega⟩
        · rw [if_neg (b01_0.mp h)] at kk
          exact kk
        · rw [if_pos (b01_n.mp h), if_neg (by omega)] at kk
          exact kk
      by_cases hn : iv 7 x1.toNat ≤ 8
      · have := fin 8 hn
        rw [b01_t (by unfold nearM; rw [show (iv 7 x1.toNat - 8).toNat = 0 by omega]; rfl)] at this
        exact this
      refine lp_up (P := fun k t => Z G mX12_softer (d + 1) 0 0 27 [vr (some 0), vi x1, vi s, vi t, vi k] [] (mkM iv) K) (iv 7 x1.toNat) (fun k t => 8 ≤ k ∧ t = b01 (ffirst (fun k => 8 * iv 0 6 < min (40 - s) (iv 8 (400 * x1 + k).toNat) + min (40 - s) (iv 8 (400 * x1 + (k - 8)).toNat) + iv 0 5) 8 (k - 8).toNat = -1)) ?_ ?_ 8 1 (by omega) ⟨by omega, rfl⟩
      · rintro t ⟨-, rfl⟩
        exact fin _ (by omega)
      · rintro k t hk ⟨hk8, rfl⟩ ih2
        have b3 := o4 k (by omega) (by omega)
        have b4 := o4 (k - 8) (by omega) (by omega)
        have sn := ffirst_snoc (P := fun k => 8 * iv 0 6 < min (40 - s) (iv 8 (400 * x1 + k).toNat) + min (40 - s) (iv 8 (400 * x1 + (k - 8)).toNat) + iv 0 5) (k - 8).toNat 8 (by omega)
        rw [show (k - 8).toNat + 1 = (k + 1 - 8).toNat by omega, show (8 + ((k - 8).toNat : Int)) = k by omega] at sn
        apply sX12_softer_27
        refine ⟨by omega, fun h => by omega, fun _ => ⟨fun h => ⟨by omega, ih2 _ ⟨by omega, ?_⟩⟩, fun h => ⟨by omega, by omega, by omega, by omega, by omega, by omega, by omega, by omega, by omega, by omega, fun h2 => ⟨by omega, ih2 _ ⟨by omega, ?_⟩⟩, fun h2 => ⟨by omega, ih2 _ ⟨by omega, ?_⟩⟩⟩⟩⟩
        · rw [sn, if_neg (b01_0.mp h)]
          exact (b01_f (b01_0.mp h)).symm
        · rw [sn, if_pos (b01_n.mp h), if_pos (by omega)]
          exact (b01_f (by omega)).symm
        · rw [sn, if_pos (b01_n.mp h), if_neg (by omega)]
          exact (b01_t rfl).symm
  · have k1 := k1 g
    apply sX12_softer_0
    exact ⟨fun h => absurd h g, fun _ => k1⟩
set_option maxRecDepth 20000 in
theorem sX12_soften_0 {G : ZG} {d : Nat} {iv : Nat → Nat → Int} {K : Option AV → AH → Prop} {x1 x2 : Int} (h : (¬ (0 ≤ x1 ∧ x1 ≤ 1) → (K (some (vi (-1))) (mkM (iu iv 0 0 1)))) ∧ (0 ≤ x1 ∧ x1 ≤ 1 → ((x2 < 0 → (K (some (vi (-1))) (mkM (iu iv 0 0 1)))) ∧ (0 ≤ x2 → ((x2 ≤ 40 → (Z G mX12_soften (d + 1) 0 0 28 [vr (some 0), vi x1, vi x2, vi 0, vi 0] [] (mkM iv) K)) ∧ (40 < x2 → (K (some (vi (-1))) (mkM (iu iv 0 0 1))))))))) : Z G mX12_soften (d + 1) 0 0 0 [vr (some 0), vi x1, vi x2, vu, vu] [] (mkM iv) K := (Z_iload_n (dX12_soften 0) rfl (Z_cS (As := [vi x1]) (S := []) (dX12_soften 1) lk_X12_238 rfl (Nat.le_of_ble_eq_true rfl) (Nat.le_of_ble_eq_true rfl) (M_isSide  ((Z_if_eq (dX12_soften 2) rfl (fun c1 => (Z_aload_n (dX12_soften 8) rfl (Z_iconst (dX12_soften 9) ⟨by decide, by decide⟩ (Z_cVM (As := [vi 1]) (S := []) (dX12_soften 10) lk_X12_221 sM0 (by decide) rfl rfl (Nat.le_of_ble_eq_true rfl) (Nat.le_of_ble_eq_true rfl) (M_refuse  ((Z_ireturn (dX12_soften 11) rfl (h.1 (b01_0.mp c1))))))))) (fun c2 => (Z_iload_n (dX12_soften 3) rfl (Z_if_lt (dX12_soften 4) rfl (fun c3 => (Z_aload_n (dX12_soften 8) rfl (Z_iconst (dX12_soften 9) ⟨by decide, by decide⟩ (Z_cVM (As := [vi 1]) (S := []) (dX12_soften 10) lk_X12_221 sM0 (by decide) rfl rfl (Nat.le_of_ble_eq_true rfl) (Nat.le_of_ble_eq_true rfl) (M_refuse  ((Z_ireturn (dX12_soften 11) rfl ((h.2 (b01_n.mp c2)).1 c3)))))))) (fun c4 => (Z_iload_n (dX12_soften 5) rfl (Z_bipush (dX12_soften 6) ⟨by decide, by decide⟩ (Z_icmp_le (dX12_soften 7) rfl (fun c5 => (Z_iconst (dX12_soften 12) ⟨by decide, by decide⟩ (Z_istore_n (dX12_soften 13) (Nat.le_of_ble_eq_true rfl) rfl (Z_iconst (dX12_soften 14) ⟨by decide, by decide⟩ (Z_istore (dX12_soften 15) (Nat.le_of_ble_eq_true rfl) rfl (((h.2 (b01_n.mp c2)).2 c4).1 c5)))))) (fun c6 => (Z_aload_n (dX12_soften 8) rfl (Z_iconst (dX12_soften 9) ⟨by decide, by decide⟩ (Z_cVM (As := [vi 1]) (S := []) (dX12_soften 10) lk_X12_221 sM0 (by decide) rfl rfl (Nat.le_of_ble_eq_true rfl) (Nat.le_of_ble_eq_true rfl) (M_refuse  ((Z_ireturn (dX12_soften 11) rfl (((h.2 (b01_n.mp c2)).2 c4).2 c6))))))))))))))))))))
set_option maxRecDepth 20000 in
theorem sX12_soften_28 {G : ZG} {d : Nat} {iv : Nat → Nat → Int} {K : Option AV → AH → Prop} {x1 x2 x3 x4 : Int} (h : (0 ≤ x1 ∧ x1 < (2 : Nat)) ∧ (((iv 7 ((x1).toNat)) ≤ x4 → (K (some (vi x3)) (mkM (iu iv 0 0 0)))) ∧ (x4 < (iv 7 ((x1).toNat)) → ((0 ≤ x1 ∧ x1 ≤ 1 ∧ -1000 ≤ x4 ∧ x4 ≤ 1000) ∧ ((0 ≤ (400 * x1 + x4) ∧ (400 * x1 + x4) < (800 : Nat)) ∧ ((x2 < (iv 8 ((400 * x1 + x4).toNat)) → ((0 ≤ x1 ∧ x1 ≤ 1 ∧ -1000 ≤ x4 ∧ x4 ≤ 1000) ∧ ((0 ≤ (400 * x1 + x4) ∧ (400 * x1 + x4) < (800 : Nat)) ∧ ((-2147483648 ≤ (x3 + 1) ∧ (x3 + 1) ≤ 2147483647) ∧ ((-2147483648 ≤ (x4 + 1) ∧ (x4 + 1) ≤ 2147483647) ∧ (Z G mX12_soften (d + 1) 0 0 28 [vr (some 0), vi x1, vi x2, vi (x3 + 1), vi (x4 + 1)] [] (mkM (iu iv 8 ((400 * x1 + x4).toNat) x2)) K)))))) ∧ ((iv 8 ((400 * x1 + x4).toNat)) ≤ x2 → ((-2147483648 ≤ (x4 + 1) ∧ (x4 + 1) ≤ 2147483647) ∧ (Z G mX12_soften (d + 1) 0 0 28 [vr (some 0), vi x1, vi x2, vi x3, vi (x4 + 1)] [] (mkM iv) K))))))))) : Z G mX12_soften (d + 1) 0 0 28 [vr (some 0), vi x1, vi x2, vi x3, vi x4] [] (mkM iv) K := (Z_iload (dX12_soften 16) rfl (Z_aload_n (dX12_soften 17) rfl (Z_gRM (r := (some 7)) (dX12_soften 18) lk_X12_39 sM0 rfl rfl (Z_iload_n (dX12_soften 19) rfl (Z_ilM (x := (iv 7 ((x1).toNat))) (dX12_soften 20) sM7 h.1 rfl (Z_icmp_ge (dX12_soften 21) rfl (fun c1 => (Z_aload_n (dX12_soften 41) rfl (Z_iload_n (dX12_soften 42) rfl (Z_cVM (As := [vi x3]) (S := []) (dX12_soften 43) lk_X12_227 sM0 (by decide) rfl rfl (Nat.le_of_ble_eq_true rfl) (Nat.le_of_ble_eq_true rfl) (M_gives  ((Z_ireturn (dX12_soften 44) rfl (h.2.1 c1)))))))) (fun c2 => (Z_aload_n (dX12_soften 22) rfl (Z_gRM (r := (some 8)) (dX12_soften 23) lk_X12_42 sM0 rfl rfl (Z_iload_n (dX12_soften 24) rfl (Z_iload (dX12_soften 25) rfl (Z_cS (As := [vi x1, vi x4]) (S := [vr (some 8)]) (dX12_soften 26) lk_X12_245 rfl (Nat.le_of_ble_eq_true rfl) (Nat.le_of_ble_eq_true rfl) (M_at  (h.2.2 c2).1 ((Z_ilM (x := (iv 8 ((400 * x1 + x4).toNat))) (dX12_soften 27) sM8 (h.2.2 c2).2.1 rfl (Z_iload_n (dX12_soften 28) rfl (Z_icmp_gt (dX12_soften 29) rfl (fun c3 => (Z_aload_n (dX12_soften 31) rfl (Z_gRM (r := (some 8)) (dX12_soften 32) lk_X12_42 sM0 rfl rfl (Z_iload_n (dX12_soften 33) rfl (Z_iload (dX12_soften 34) rfl (Z_cS (As := [vi x1, vi x4]) (S := [vr (some 8)]) (dX12_soften 35) lk_X12_245 rfl (Nat.le_of_ble_eq_true rfl) (Nat.le_of_ble_eq_true rfl) (M_at  ((h.2.2 c2).2.2.1 c3).1 ((Z_iload_n (dX12_soften 36) rfl (Z_iastM (dX12_soften 37) sM8 ((h.2.2 c2).2.2.1 c3).2.1 (Z_iinc (dX12_soften 38) rfl (Nat.le_of_ble_eq_true rfl) ((h.2.2 c2).2.2.1 c3).2.2.1 rfl (Z_iinc (dX12_soften 39) rfl (Nat.le_of_ble_eq_true rfl) ((h.2.2 c2).2.2.1 c3).2.2.2.1 rfl (Z_goto (dX12_soften 40) rfl ((h.2.2 c2).2.2.1 c3).2.2.2.2))))))))))))) (fun c4 => (Z_goto (dX12_soften 30) rfl (Z_iinc (dX12_soften 39) rfl (Nat.le_of_ble_eq_true rfl) ((h.2.2 c2).2.2.2 c4).1 rfl (Z_goto (dX12_soften 40) rfl ((h.2.2 c2).2.2.2 c4).2)))))))))))))))))))))
theorem M_soften {G : ZG} {d : Nat} {iv : Nat → Nat → Int} {K : Option AV → AH → Prop} {x1 x2 : Int} (hok : 0 ≤ x1 → x1 ≤ 1 → 0 ≤ iv 7 x1.toNat ∧ iv 7 x1.toNat ≤ 400) (k1 : ¬ ((0 ≤ x1 ∧ x1 ≤ 1) ∧ 0 ≤ x2 ∧ x2 ≤ 40) → K (some (vi (-1))) (mkM (iu iv 0 0 1))) (k0 : ((0 ≤ x1 ∧ x1 ≤ 1) ∧ 0 ≤ x2 ∧ x2 ≤ 40) → K (some (vi (cntf (fun k => x2 < iv 8 (400 * x1 + k).toNat) (iv 7 x1.toNat).toNat))) (mkM (iu (imap iv 8 (400 * x1).toNat (400 * x1 + iv 7 x1.toNat).toNat (fun j => min x2 (iv 8 j))) 0 0 0))) :
    Z G mX12_soften (d + 1) 0 0 0 [vr (some 0), vi x1, vi x2, vu, vu] [] (mkM iv) K := by
  by_cases g : (0 ≤ x1 ∧ x1 ≤ 1) ∧ 0 ≤ x2 ∧ x2 ≤ 40
  · have o2 := hok g.1.1 g.1.2
    have kk := k0 g
    apply sX12_soften_0
    refine ⟨fun h1 => ?_, fun h1 => ⟨fun h2 => ?_, fun h2 => ⟨fun h3 => ?_, fun h3 => ?_⟩⟩⟩
    all_goals (try omega)
    refine lp_up (P := fun k (t : Int × (Nat → Nat → Int)) => Z G mX12_soften (d + 1) 0 0 28 [vr (some 0), vi x1, vi x2, vi t.1, vi k] [] (mkM t.2) K) (iv 7 x1.toNat) (fun k t => 0 ≤ k ∧ t.1 = cntf (fun k => x2 < iv 8 (400 * x1 + k).toNat) k.toNat ∧ t.2 = imap iv 8 (400 * x1).toNat (400 * x1 + k).toNat (fun j => min x2 (iv 8 j))) ?_ ?_ 0 (0, iv) (by omega) ⟨by omega, rfl, by rw [show 400 * x1 + 0 = 400 * x1 by omega, imap_nil]⟩
    · rintro ⟨t, iv'⟩ ⟨-, e1, e2⟩
      dsimp only at e1 e2 ⊢
      subst e1 e2
      apply sX12_soften_28
      rw [imap_row (i := 7) (by decide)]
      exact ⟨by omega, fun _ => kk, fun h => by omega⟩
    · rintro k ⟨t, iv'⟩ hk ⟨hk0, e1, e2⟩ ih
      dsimp only at e1 e2 ⊢
      subst e1 e2
      have hc := cntf_r (P := fun k => x2 < iv 8 (400 * x1 + k).toNat) k.toNat
      have hcs : cntf (fun k => x2 < iv 8 (400 * x1 + k).toNat) (k + 1).toNat = cntf (fun k => x2 < iv 8 (400 * x1 + k).toNat) k.toNat + (if x2 < iv 8 (400 * x1 + k).toNat then 1 else 0) := by
        rw [show (k + 1).toNat = k.toNat + 1 by omega]
        show _ + (if x2 < iv 8 (400 * x1 + (k.toNat : Int)).toNat then 1 else 0) = _
        rw [show ((k.toNat : Nat) : Int) = k by omega]
      have e8 : imap iv 8 (400 * x1).toNat (400 * x1 + k).toNat (fun j => min x2 (iv 8 j)) 8 (400 * x1 + k).toNat = iv 8 (400 * x1 + k).toNat := by rw [imap_ap, if_neg (by omega)]
      apply sX12_soften_28
      rw [imap_row (i := 7) (by decide), e8]
      refine ⟨by omega, fun h => by omega, fun _ => ⟨by omega, by omega, fun h => ?_, fun h => ?_⟩⟩
      · refine ⟨by omega, by omega, by omega, by omega, ih (_, _) ⟨by omega, ?_, ?_⟩⟩
        · show cntf _ _ + 1 = cntf _ _
          rw [hcs, if_pos (by omega)]
        · show iu _ _ _ _ = imap _ _ _ _ _
          rw [imap_snoc (by omega) (by omega)]; congr 1; omega
      · refine ⟨by omega, ih (_, _) ⟨by omega, ?_, ?_⟩⟩
        · show cntf _ _ = cntf _ _
          rw [hcs, if_neg (by omega)]; omega
        · show imap _ _ _ _ _ = imap _ _ _ _ _
          rw [show (400 * x1 + (k + 1)).toNat = (400 * x1 + k).toNat + 1 by omega, ← imap_snoc (x := iv 8 (400 * x1 + k).toNat) (by omega) (by omega)]
          conv => lhs; rw [← iu_self (o := 8) (k := (400 * x1 + k).toNat) (iv := imap iv 8 (400 * x1).toNat (400 * x1 + k).toNat (fun j => min x2 (iv 8 j))), e8]
  · have k1 := k1 g
    apply sX12_soften_0
    refine ⟨fun h1 => ?_, fun h1 => ⟨fun h2 => ?_, fun h2 => ⟨fun h3 => ?_, fun h3 => ?_⟩⟩⟩
    all_goals (try omega)

