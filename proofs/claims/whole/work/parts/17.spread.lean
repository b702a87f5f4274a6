/-! ===== sides: places ===== -/
/-- what a row of raisings does: Sa all bounds that there are, Sd those that have been looked at -/
def Rz (iv iv' : Nat → Nat → Int) (Sa Sd : Nat → Nat → Int → Prop) : Prop :=
  (∀ i j, i ≠ 15 → ¬ (i = 0 ∧ j = 20) → iv' i j = iv i j) ∧ (iv' 0 20 = iv 0 20 ∨ iv' 0 20 = 1) ∧ (∀ j, iv 15 j ≤ iv' 15 j) ∧
  (∀ q : Nat → Int, (∀ j, iv 15 j ≤ q j) → (∀ a i w, Sa a i w → q a + w ≤ q i) → ∀ j, iv' 15 j ≤ q j) ∧
  (iv' 0 20 ≠ 1 → iv' 15 = iv 15 ∧ ∀ a i w, Sd a i w → iv 15 a + w ≤ iv 15 i) ∧
  (iv' 0 20 = 1 → iv 0 20 = 1 ∨ ∃ j, iv 15 j < iv' 15 j)
theorem Rz.rf {iv : Nat → Nat → Int} {Sa : Nat → Nat → Int → Prop} : Rz iv iv Sa (fun _ _ _ => False) :=
  ⟨fun _ _ _ _ => rfl, Or.inl rfl, fun _ => Int.le_refl _, fun q hq _ j => hq j, fun _ => ⟨rfl, fun _ _ _ h => h.elim⟩, fun h => Or.inl h⟩
theorem Rz.done {iv iv' : Nat → Nat → Int} {Sa Sd Sd' : Nat → Nat → Int → Prop} (h : Rz iv iv' Sa Sd) (hs : ∀ a i w, Sd' a i w → Sd a i w) : Rz iv iv' Sa Sd' := ⟨h.1, h.2.1, h.2.2.1, h.2.2.2.1, fun q => ⟨(h.2.2.2.2.1 q).1, fun a i w k => (h.2.2.2.2.1 q).2 a i w (hs a i w k)⟩, h.2.2.2.2.2⟩
theorem Rz.all {iv iv' : Nat → Nat → Int} {Sa Sa' Sd : Nat → Nat → Int → Prop} (h : Rz iv iv' Sa Sd) (hs : ∀ a i w, Sa a i w → Sa' a i w) : Rz iv iv' Sa' Sd := ⟨h.1, h.2.1, h.2.2.1, fun q h1 h2 => h.2.2.2.1 q h1 (fun a i w k => h2 a i w (hs a i w k)), h.2.2.2.2.1, h.2.2.2.2.2⟩
theorem mraise_15 {iv : Nat → Nat → Int} {i : Int} {v : Int} {j : Nat} : mraise iv i v 15 j = if j = i.toNat then max v (iv 15 j) else iv 15 j := by
  unfold mraise
  by_cases h : v ≤ iv 15 i.toNat
  · rw [if_pos h]
    by_cases e : j = i.toNat
    · rw [if_pos e, e]; omega
    · rw [if_neg e]
  · rw [if_neg h, iu_o (by decide), iu_i]
    by_cases e : j = i.toNat
    · rw [if_pos e, if_pos e, e]; omega
    · rw [if_neg e, if_neg e]
theorem mraise_o {iv : Nat → Nat → Int} {i : Int} {v : Int} {o j : Nat} (h1 : o ≠ 15) (h2 : ¬ (o = 0 ∧ j = 20)) : mraise iv i v o j = iv o j := by
  unfold mraise
  split
  · rfl
  · rw [iu_ap, if_neg (fun q => h2 ⟨q.1, q.2⟩), iu_o h1]
theorem mraise_row {iv : Nat → Nat → Int} {i : Int} {v : Int} {o : Nat} (h1 : o ≠ 15) (h2 : o ≠ 0) : mraise iv i v o = iv o := funext fun _ => mraise_o h1 (fun q => h2 q.1)
theorem Rz.step {iv iv' : Nat → Nat → Int} {Sa Sd : Nat → Nat → Int → Prop} {i v : Int} {a : Nat} {w : Int} (h : Rz iv iv' Sa Sd) (hv : v = iv' 15 a + w) (hs : Sa a i.toNat w) : Rz iv (mraise iv' i v) Sa (fun a' i' w' => Sd a' i' w' ∨ (a' = a ∧ i' = i.toNat ∧ w' = w)) := by
  obtain ⟨h1, h2, h3, h4, h5, h6⟩ := h
  refine ⟨fun o j e1 e2 => (mraise_o e1 e2).trans (h1 o j e1 e2), ?_, fun j => ?_, fun q q1 q2 j => ?_, fun hm => ?_, fun hm => ?_⟩
  · unfold mraise
    split
    · exact h2
    · exact Or.inr iu_eq
  · rw [mraise_15]
    have := h3 j
    split <;> omega
  · rw [mraise_15]
    have e1 := h4 q q1 q2 j
    have e2 := h4 q q1 q2 a
    have e3 := q2 a i.toNat w hs
    split
    · rename_i e
      rw [e] at e1 ⊢
      omega
    · exact e1
  · unfold mraise at hm ⊢
    by_cases hc : v ≤ iv' 15 i.toNat
    · rw [if_pos hc] at hm ⊢
      obtain ⟨g1, g2⟩ := h5 hm
      refine ⟨g1, fun a' i' w' hq => ?_⟩
      rcases hq with hq | ⟨rfl, rfl, rfl⟩
      · exact g2 a' i' w' hq
      · rw [g1] at hc hv
        omega
    · rw [if_neg hc] at hm
      exact absurd iu_eq hm
  · unfold mraise at hm
    by_cases hc : v ≤ iv' 15 i.toNat
    · rw [if_pos hc] at hm
      rcases h6 hm with g | ⟨j, g⟩
      · exact Or.inl g
      · refine Or.inr ⟨j, ?_⟩
        rw [mraise_15]
        split <;> omega
    · refine Or.inr ⟨i.toNat, ?_⟩
      rw [mraise_15, if_pos rfl]
      have := h3 i.toNat
      omega
theorem Rz.trans {iv iv1 iv2 : Nat → Nat → Int} {Sa Sd Sd' : Nat → Nat → Int → Prop} (h : Rz iv iv1 Sa Sd) (h' : Rz iv1 iv2 Sa Sd') : Rz iv iv2 Sa (fun a i w => Sd a i w ∨ Sd' a i w) := by
  obtain ⟨h1, h2, h3, h4, h5, h6⟩ := h
  obtain ⟨g1, g2, g3, g4, g5, g6⟩ := h'
  refine ⟨fun o j e1 e2 => (g1 o j e1 e2).trans (h1 o j e1 e2), ?_, fun j => Int.le_trans (h3 j) (g3 j), fun q q1 q2 j => g4 q (h4 q q1 q2) q2 j, fun hm => ?_, fun hm => ?_⟩
  · rcases g2 with g | g
    · rw [g]; exact h2
    · exact Or.inr g
  · have e1 := g5 hm
    have hm1 : iv1 0 20 ≠ 1 := by
      rcases g2 with g | g
      · rw [← g]; exact hm
      · exact absurd g hm
    have e2 := h5 hm1
    refine ⟨e1.1.trans e2.1, fun a i w hq => ?_⟩
    rcases hq with hq | hq
    · exact e2.2 a i w hq
    · have := e1.2 a i w hq
      rw [e2.1] at this
      exact this
  · rcases g6 hm with g | ⟨j, g⟩
    · rcases h6 g with k | ⟨j, k⟩
      · exact Or.inl k
      · exact Or.inr ⟨j, by have := g3 j; omega⟩
    · exact Or.inr ⟨j, by have := h3 j; omega⟩
/-- the bounds of a side -/
def SideC (iv : Nat → Nat → Int) (s : Int) (a i : Nat) (w : Int) : Prop := ∃ k : Int, (1 ≤ k ∧ k < iv 7 s.toNat) ∧ ((a = (400 * s + (k - 1)).toNat ∧ i = (400 * s + k).toNat ∧ w = 0) ∨ (8 ≤ k ∧ a = (400 * s + (k - 8)).toNat ∧ i = (400 * s + k).toNat ∧ w = iv 8 (400 * s + k).toNat + iv 8 (400 * s + (k - 8)).toNat + iv 0 5) ∨ (a = (400 * s + k).toNat ∧ i = (400 * s + (k - 1)).toNat ∧ w = - iv 0 6))
/-- those that the first run has looked at -/
def SideF (iv : Nat → Nat → Int) (s n : Int) (a i : Nat) (w : Int) : Prop := ∃ k : Int, (1 ≤ k ∧ k < n) ∧ ((a = (400 * s + (k - 1)).toNat ∧ i = (400 * s + k).toNat ∧ w = 0) ∨ (8 ≤ k ∧ a = (400 * s + (k - 8)).toNat ∧ i = (400 * s + k).toNat ∧ w = iv 8 (400 * s + k).toNat + iv 8 (400 * s + (k - 8)).toNat + iv 0 5))
def SideB (iv : Nat → Nat → Int) (s n : Int) (a i : Nat) (w : Int) : Prop := ∃ k : Int, (n < k ∧ k < iv 7 s.toNat) ∧ (a = (400 * s + k).toNat ∧ i = (400 * s + (k - 1)).toNat ∧ w = - iv 0 6)
set_option maxRecDepth 20000 in
theorem sX12_push_0 {G : ZG} {d : Nat} {iv : Nat → Nat → Int} {K : Option AV → AH → Prop} {x1 : Int} (h : Z G mX12_push (d + 1) 0 0 2 [vr (some 0), vi x1, vi 0] [] (mkM iv) K) : Z G mX12_push (d + 1) 0 0 0 [vr (some 0), vi x1, vu] [] (mkM iv) K := (Z_iconst (dX12_push 0) ⟨by decide, by decide⟩ (Z_istore_n (dX12_push 1) (Nat.le_of_ble_eq_true rfl) rfl h))
set_option maxRecDepth 20000 in
theorem sX12_push_2 {G : ZG} {d : Nat} {iv : Nat → Nat → Int} {K : Option AV → AH → Prop} {x1 x2 : Int} (h : (0 ≤ x1 ∧ x1 < (2 : Nat)) ∧ (((iv 7 ((x1).toNat)) ≤ x2 → ((0 ≤ x1 ∧ x1 < (2 : Nat)) ∧ ((-2147483648 ≤ ((iv 7 ((x1).toNat)) - 1) ∧ ((iv 7 ((x1).toNat)) - 1) ≤ 2147483647) ∧ (Z G mX12_push (d + 1) 0 0 110 [vr (some 0), vi x1, vi ((iv 7 ((x1).toNat)) - 1)] [] (mkM iv) K)))) ∧ (x2 < (iv 7 ((x1).toNat)) → ((x2 ≤ 0 → (Z G mX12_push (d + 1) 0 0 37 [vr (some 0), vi x1, vi x2] [] (mkM iv) K)) ∧ (0 < x2 → ((0 ≤ x1 ∧ x1 ≤ 1 ∧ -1000 ≤ x2 ∧ x2 ≤ 1000) ∧ ((-2147483648 ≤ (x2 - 1) ∧ (x2 - 1) ≤ 2147483647) ∧ ((0 ≤ x1 ∧ x1 ≤ 1 ∧ -1000 ≤ (x2 - 1) ∧ (x2 - 1) ≤ 1000) ∧ ((0 ≤ (400 * x1 + (x2 - 1)) ∧ (400 * x1 + (x2 - 1)) < (800 : Nat)) ∧ ((0 ≤ (400 * x1 + x2) ∧ (400 * x1 + x2) < 800) ∧ (Z G mX12_push (d + 1) 0 0 37 [vr (some 0), vi x1, vi x2] [] (mkM (mraise iv (400 * x1 + x2) (iv 15 ((400 * x1 + (x2 - 1)).toNat)))) K))))))))))) : Z G mX12_push (d + 1) 0 0 2 [vr (some 0), vi x1, vi x2] [] (mkM iv) K := (Z_iload_n (dX12_push 2) rfl (Z_aload_n (dX12_push 3) rfl (Z_gRM (r := (some 7)) (dX12_push 4) lk_X12_39 sM0 rfl rfl (Z_iload_n (dX12_push 5) rfl (Z_ilM (x := (iv 7 ((x1).toNat))) (dX12_push 6) sM7 h.1 rfl (Z_icmp_ge (dX12_push 7) rfl (fun c1 => (Z_aload_n (dX12_push 60) rfl (Z_gRM (r := (some 7)) (dX12_push 61) lk_X12_39 sM0 rfl rfl (Z_iload_n (dX12_push 62) rfl (Z_ilM (x := (iv 7 ((x1).toNat))) (dX12_push 63) sM7 (h.2.1 c1).1 rfl (Z_iconst (dX12_push 64) ⟨by decide, by decide⟩ (Z_isub (dX12_push 65) (h.2.1 c1).2.1 (Z_istore_n (dX12_push 66) (Nat.le_of_ble_eq_true rfl) rfl (h.2.1 c1).2.2)))))))) (fun c2 => (Z_iload_n (dX12_push 8) rfl (Z_if_le (dX12_push 9) rfl (fun c3 => ((h.2.2 c2).1 c3)) (fun c4 => (Z_aload_n (dX12_push 10) rfl (Z_iload_n (dX12_push 11) rfl (Z_iload_n (dX12_push 12) rfl (Z_cS (As := [vi x1, vi x2]) (S := [vr (some 0)]) (dX12_push 13) lk_X12_245 rfl (Nat.le_of_ble_eq_true rfl) (Nat.le_of_ble_eq_true rfl) (M_at  ((h.2.2 c2).2 c4).1 ((Z_aload_n (dX12_push 14) rfl (Z_gRM (r := (some 15)) (dX12_push 15) lk_X12_63 sM0 rfl rfl (Z_iload_n (dX12_push 16) rfl (Z_iload_n (dX12_push 17) rfl (Z_iconst (dX12_push 18) ⟨by decide, by decide⟩ (Z_isub (dX12_push 19) ((h.2.2 c2).2 c4).2.1 (Z_cS (As := [vi x1, vi (x2 - 1)]) (S := [vr (some 15), vi (400 * x1 + x2), vr (some 0)]) (dX12_push 20) lk_X12_245 rfl (Nat.le_of_ble_eq_true rfl) (Nat.le_of_ble_eq_true rfl) (M_at  ((h.2.2 c2).2 c4).2.2.1 ((Z_ilM (x := (iv 15 ((400 * x1 + (x2 - 1)).toNat))) (dX12_push 21) sM15 ((h.2.2 c2).2 c4).2.2.2.1 rfl (Z_cVM (As := [vi (400 * x1 + x2), vi (iv 15 ((400 * x1 + (x2 - 1)).toNat))]) (S := []) (dX12_push 22) lk_X12_260 sM0 (by decide) rfl rfl (Nat.le_of_ble_eq_true rfl) (Nat.le_of_ble_eq_true rfl) (M_raise  ((h.2.2 c2).2 c4).2.2.2.2.1 (((h.2.2 c2).2 c4).2.2.2.2.2)))))))))))))))))))))))))))))
set_option maxRecDepth 20000 in
theorem sX12_push_37 {G : ZG} {d : Nat} {iv : Nat → Nat → Int} {K : Option AV → AH → Prop} {x1 x2 : Int} (h : (x2 < 8 → ((-2147483648 ≤ (x2 + 1) ∧ (x2 + 1) ≤ 2147483647) ∧ (Z G mX12_push (d + 1) 0 0 2 [vr (some 0), vi x1, vi (x2 + 1)] [] (mkM iv) K))) ∧ (8 ≤ x2 → ((0 ≤ x1 ∧ x1 ≤ 1 ∧ -1000 ≤ x2 ∧ x2 ≤ 1000) ∧ ((-2147483648 ≤ (x2 - 8) ∧ (x2 - 8) ≤ 2147483647) ∧ ((0 ≤ x1 ∧ x1 ≤ 1 ∧ -1000 ≤ (x2 - 8) ∧ (x2 - 8) ≤ 1000) ∧ ((0 ≤ (400 * x1 + (x2 - 8)) ∧ (400 * x1 + (x2 - 8)) < (800 : Nat)) ∧ ((0 ≤ x1 ∧ x1 ≤ 1 ∧ -1000 ≤ x2 ∧ x2 ≤ 1000) ∧ ((0 ≤ (400 * x1 + x2) ∧ (400 * x1 + x2) < (800 : Nat)) ∧ ((-2147483648 ≤ ((iv 15 ((400 * x1 + (x2 - 8)).toNat)) + (iv 8 ((400 * x1 + x2).toNat))) ∧ ((iv 15 ((400 * x1 + (x2 - 8)).toNat)) + (iv 8 ((400 * x1 + x2).toNat))) ≤ 2147483647) ∧ ((-2147483648 ≤ (x2 - 8) ∧ (x2 - 8) ≤ 2147483647) ∧ ((0 ≤ x1 ∧ x1 ≤ 1 ∧ -1000 ≤ (x2 - 8) ∧ (x2 - 8) ≤ 1000) ∧ ((0 ≤ (400 * x1 + (x2 - 8)) ∧ (400 * x1 + (x2 - 8)) < (800 : Nat)) ∧ ((-2147483648 ≤ (((iv 15 ((400 * x1 + (x2 - 8)).toNat)) + (iv 8 ((400 * x1 + x2).toNat))) + (iv 8 ((400 * x1 + (x2 - 8)).toNat))) ∧ (((iv 15 ((400 * x1 + (x2 - 8)).toNat)) + (iv 8 ((400 * x1 + x2).toNat))) + (iv 8 ((400 * x1 + (x2 - 8)).toNat))) ≤ 2147483647) ∧ ((-2147483648 ≤ ((((iv 15 ((400 * x1 + (x2 - 8)).toNat)) + (iv 8 ((400 * x1 + x2).toNat))) + (iv 8 ((400 * x1 + (x2 - 8)).toNat))) + (iv 0 5)) ∧ ((((iv 15 ((400 * x1 + (x2 - 8)).toNat)) + (iv 8 ((400 * x1 + x2).toNat))) + (iv 8 ((400 * x1 + (x2 - 8)).toNat))) + (iv 0 5)) ≤ 2147483647) ∧ ((0 ≤ (400 * x1 + x2) ∧ (400 * x1 + x2) < 800) ∧ ((-2147483648 ≤ (x2 + 1) ∧ (x2 + 1) ≤ 2147483647) ∧ (Z G mX12_push (d + 1) 0 0 2 [vr (some 0), vi x1, vi (x2 + 1)] [] (mkM (mraise iv (400 * x1 + x2) ((((iv 15 ((400 * x1 + (x2 - 8)).toNat)) + (iv 8 ((400 * x1 + x2).toNat))) + (iv 8 ((400 * x1 + (x2 - 8)).toNat))) + (iv 0 5)))) K))))))))))))))))) : Z G mX12_push (d + 1) 0 0 37 [vr (some 0), vi x1, vi x2] [] (mkM iv) K := (Z_iload_n (dX12_push 23) rfl (Z_bipush (dX12_push 24) ⟨by decide, by decide⟩ (Z_icmp_lt (dX12_push 25) rfl (fun c1 => (Z_iinc (dX12_push 58) rfl (Nat.le_of_ble_eq_true rfl) (h.1 c1).1 rfl (Z_goto (dX12_push 59) rfl (h.1 c1).2))) (fun c2 => (Z_aload_n (dX12_push 26) rfl (Z_iload_n (dX12_push 27) rfl (Z_iload_n (dX12_push 28) rfl (Z_cS (As := [vi x1, vi x2]) (S := [vr (some 0)]) (dX12_push 29) lk_X12_245 rfl (Nat.le_of_ble_eq_true rfl) (Nat.le_of_ble_eq_true rfl) (M_at  (h.2 c2).1 ((Z_aload_n (dX12_push 30) rfl (Z_gRM (r := (some 15)) (dX12_push 31) lk_X12_63 sM0 rfl rfl (Z_iload_n (dX12_push 32) rfl (Z_iload_n (dX12_push 33) rfl (Z_bipush (dX12_push 34) ⟨by decide, by decide⟩ (Z_isub (dX12_push 35) (h.2 c2).2.1 (Z_cS (As := [vi x1, vi (x2 - 8)]) (S := [vr (some 15), vi (400 * x1 + x2), vr (some 0)]) (dX12_push 36) lk_X12_245 rfl (Nat.le_of_ble_eq_true rfl) (Nat.le_of_ble_eq_true rfl) (M_at  (h.2 c2).2.2.1 ((Z_ilM (x := (iv 15 ((400 * x1 + (x2 - 8)).toNat))) (dX12_push 37) sM15 (h.2 c2).2.2.2.1 rfl (Z_aload_n (dX12_push 38) rfl (Z_gRM (r := (some 8)) (dX12_push 39) lk_X12_42 sM0 rfl rfl (Z_iload_n (dX12_push 40) rfl (Z_iload_n (dX12_push 41) rfl (Z_cS (As := [vi x1, vi x2]) (S := [vr (some 8), vi (iv 15 ((400 * x1 + (x2 - 8)).toNat)), vi (400 * x1 + x2), vr (some 0)]) (dX12_push 42) lk_X12_245 rfl (Nat.le_of_ble_eq_true rfl) (Nat.le_of_ble_eq_true rfl) (M_at  (h.2 c2).2.2.2.2.1 ((Z_ilM (x := (iv 8 ((400 * x1 + x2).toNat))) (dX12_push 43) sM8 (h.2 c2).2.2.2.2.2.1 rfl (Z_iadd (dX12_push 44) (h.2 c2).2.2.2.2.2.2.1 (Z_aload_n (dX12_push 45) rfl (Z_gRM (r := (some 8)) (dX12_push 46) lk_X12_42 sM0 rfl rfl (Z_iload_n (dX12_push 47) rfl (Z_iload_n (dX12_push 48) rfl (Z_bipush (dX12_push 49) ⟨by decide, by decide⟩ (Z_isub (dX12_push 50) (h.2 c2).2.2.2.2.2.2.2.1 (Z_cS (As := [vi x1, vi (x2 - 8)]) (S := [vr (some 8), vi ((iv 15 ((400 * x1 + (x2 - 8)).toNat)) + (iv 8 ((400 * x1 + x2).toNat))), vi (400 * x1 + x2), vr (some 0)]) (dX12_push 51) lk_X12_245 rfl (Nat.le_of_ble_eq_true rfl) (Nat.le_of_ble_eq_true rfl) (M_at  (h.2 c2).2.2.2.2.2.2.2.2.1 ((Z_ilM (x := (iv 8 ((400 * x1 + (x2 - 8)).toNat))) (dX12_push 52) sM8 (h.2 c2).2.2.2.2.2.2.2.2.2.1 rfl (Z_iadd (dX12_push 53) (h.2 c2).2.2.2.2.2.2.2.2.2.2.1 (Z_aload_n (dX12_push 54) rfl (Z_gIM (x := (iv 0 5)) (dX12_push 55) lk_X12_20 sM0 (Or.inl rfl) rfl (Z_iadd (dX12_push 56) (h.2 c2).2.2.2.2.2.2.2.2.2.2.2.1 (Z_cVM (As := [vi (400 * x1 + x2), vi ((((iv 15 ((400 * x1 + (x2 - 8)).toNat)) + (iv 8 ((400 * x1 + x2).toNat))) + (iv 8 ((400 * x1 + (x2 - 8)).toNat))) + (iv 0 5))]) (S := []) (dX12_push 57) lk_X12_260 sM0 (by decide) rfl rfl (Nat.le_of_ble_eq_true rfl) (Nat.le_of_ble_eq_true rfl) (M_raise  (h.2 c2).2.2.2.2.2.2.2.2.2.2.2.2.1 ((Z_iinc (dX12_push 58) rfl (Nat.le_of_ble_eq_true rfl) (h.2 c2).2.2.2.2.2.2.2.2.2.2.2.2.2.1 rfl (Z_goto (dX12_push 59) rfl (h.2 c2).2.2.2.2.2.2.2.2.2.2.2.2.2.2))))))))))))))))))))))))))))))))))))))))))))))))
set_option maxRecDepth 20000 in
theorem sX12_push_110 {G : ZG} {d : Nat} {iv : Nat → Nat → Int} {K : Option AV → AH → Prop} {x1 x2 : Int} (h : (x2 ≤ 0 → (K none (mkM iv))) ∧ (0 < x2 → ((-2147483648 ≤ (x2 - 1) ∧ (x2 - 1) ≤ 2147483647) ∧ ((0 ≤ x1 ∧ x1 ≤ 1 ∧ -1000 ≤ (x2 - 1) ∧ (x2 - 1) ≤ 1000) ∧ ((0 ≤ x1 ∧ x1 ≤ 1 ∧ -1000 ≤ x2 ∧ x2 ≤ 1000) ∧ ((0 ≤ (400 * x1 + x2) ∧ (400 * x1 + x2) < (800 : Nat)) ∧ ((-2147483648 ≤ ((iv 15 ((400 * x1 + x2).toNat)) - (iv 0 6)) ∧ ((iv 15 ((400 * x1 + x2).toNat)) - (iv 0 6)) ≤ 2147483647) ∧ ((0 ≤ (400 * x1 + (x2 - 1)) ∧ (400 * x1 + (x2 - 1)) < 800) ∧ ((-2147483648 ≤ (x2 + (-1)) ∧ (x2 + (-1)) ≤ 2147483647) ∧ (Z G mX12_push (d + 1) 0 0 110 [vr (some 0), vi x1, vi (x2 + (-1))] [] (mkM (mraise iv (400 * x1 + (x2 - 1)) ((iv 15 ((400 * x1 + x2).toNat)) - (iv 0 6)))) K)))))))))) : Z G mX12_push (d + 1) 0 0 110 [vr (some 0), vi x1, vi x2] [] (mkM iv) K := (Z_iload_n (dX12_push 67) rfl (Z_if_le (dX12_push 68) rfl (fun c1 => (Z_return (dX12_push 87) rfl (h.1 c1))) (fun c2 => (Z_aload_n (dX12_push 69) rfl (Z_iload_n (dX12_push 70) rfl (Z_iload_n (dX12_push 71) rfl (Z_iconst (dX12_push 72) ⟨by decide, by decide⟩ (Z_isub (dX12_push 73) (h.2 c2).1 (Z_cS (As := [vi x1, vi (x2 - 1)]) (S := [vr (some 0)]) (dX12_push 74) lk_X12_245 rfl (Nat.le_of_ble_eq_true rfl) (Nat.le_of_ble_eq_true rfl) (M_at  (h.2 c2).2.1 ((Z_aload_n (dX12_push 75) rfl (Z_gRM (r := (some 15)) (dX12_push 76) lk_X12_63 sM0 rfl rfl (Z_iload_n (dX12_push 77) rfl (Z_iload_n (dX12_push 78) rfl (Z_cS (As := [vi x1, vi x2]) (S := [vr (some 15), vi (400 * x1 + (x2 - 1)), vr (some 0)]) (dX12_push 79) lk_X12_245 rfl (Nat.le_of_ble_eq_true rfl) (Nat.le_of_ble_eq_true rfl) (M_at  (h.2 c2).2.2.1 ((Z_ilM (x := (iv 15 ((400 * x1 + x2).toNat))) (dX12_push 80) sM15 (h.2 c2).2.2.2.1 rfl (Z_aload_n (dX12_push 81) rfl (Z_gIM (x := (iv 0 6)) (dX12_push 82) lk_X12_24 sM0 (Or.inl rfl) rfl (Z_isub (dX12_push 83) (h.2 c2).2.2.2.2.1 (Z_cVM (As := [vi (400 * x1 + (x2 - 1)), vi ((iv 15 ((400 * x1 + x2).toNat)) - (iv 0 6))]) (S := []) (dX12_push 84) lk_X12_260 sM0 (by decide) rfl rfl (Nat.le_of_ble_eq_true rfl) (Nat.le_of_ble_eq_true rfl) (M_raise  (h.2 c2).2.2.2.2.2.1 ((Z_iinc (dX12_push 85) rfl (Nat.le_of_ble_eq_true rfl) (h.2 c2).2.2.2.2.2.2.1 rfl (Z_goto (dX12_push 86) rfl (h.2 c2).2.2.2.2.2.2.2)))))))))))))))))))))))))))
theorem M_push {G : ZG} {d : Nat} {iv : Nat → Nat → Int} {K : Option AV → AH → Prop} {x1 M : Int} (h1 : 0 ≤ x1 ∧ x1 ≤ 1) (h2 : 0 ≤ iv 7 x1.toNat ∧ iv 7 x1.toNat ≤ 400) (h3 : (1 ≤ iv 0 5 ∧ iv 0 5 ≤ 20) ∧ (1 ≤ iv 0 6 ∧ iv 0 6 ≤ 20)) (h4 : ∀ k : Int, 0 ≤ k → k < iv 7 x1.toNat → 0 ≤ iv 8 (400 * x1 + k).toNat ∧ iv 8 (400 * x1 + k).toNat ≤ 40) (hM : M ≤ 1000000000) (h5 : ∀ k : Int, 0 ≤ k → k < iv 7 x1.toNat → 0 ≤ iv 15 (400 * x1 + k).toNat ∧ iv 15 (400 * x1 + k).toNat ≤ M)
    (k : ∀ iv', Rz iv iv' (SideC iv x1) (SideC iv x1) → (∀ k : Int, 0 ≤ k → k < iv 7 x1.toNat → iv' 15 (400 * x1 + k).toNat ≤ M + 40000) → K none (mkM iv')) : Z G mX12_push (d + 1) 0 0 0 [vr (some 0), vi x1, vu] [] (mkM iv) K := by
  apply sX12_push_0
  have f7 : ∀ {iv' Sd}, Rz iv iv' (SideC iv x1) Sd → iv' 7 = iv 7 ∧ iv' 8 = iv 8 ∧ iv' 0 5 = iv 0 5 ∧ iv' 0 6 = iv 0 6 := fun h => ⟨funext fun j => h.1 7 j (by decide) (by omega), funext fun j => h.1 8 j (by decide) (by omega), h.1 0 5 (by decide) (by omega), h.1 0 6 (by decide) (by omega)⟩
  refine lp_up (P := fun k iv' => Z G mX12_push (d + 1) 0 0 2 [vr (some 0), vi x1, vi k] [] (mkM iv') K) (iv 7 x1.toNat) (fun n iv' => 0 ≤ n ∧ Rz iv iv' (SideC iv x1) (SideF iv x1 n) ∧ ∀ k : Int, 0 ≤ k → k < iv 7 x1.toNat → iv' 15 (400 * x1 + k).toNat ≤ M + 100 * n) ?_ ?_ 0 iv (by omega) ⟨by omega, Rz.rf.done (fun a i w h => by obtain ⟨k, h, -⟩ := h; omega), fun k a b => by have := h5 k a b; omega⟩
  · rintro iv' ⟨-, hz, hb⟩
    obtain ⟨e7, e8, e5, e6⟩ := f7 hz
    apply sX12_push_2
    rw [e7]
    refine ⟨by omega, fun _ => ⟨by omega, by omega, ?_⟩, fun h => by omega⟩
    -- the way back
    by_cases hn0 : iv 7 x1.toNat = 0
    · apply sX12_push_110
      refine ⟨fun _ => ?_, fun h => by omega⟩
      refine k iv' (hz.done (fun a i w h => ?_)) (fun k a b => by have := hb k a b; omega)
      obtain ⟨q, h, -⟩ := h
      omega
    refine lp_dn (P := fun k iv' => Z G mX12_push (d + 1) 0 0 110 [vr (some 0), vi x1, vi k] [] (mkM iv') K) 0 (fun n iv' => n < iv 7 x1.toNat ∧ Rz iv iv' (SideC iv x1) (fun a i w => SideF iv x1 (iv 7 x1.toNat) a i w ∨ SideB iv x1 n a i w) ∧ ∀ k : Int, 0 ≤ k → k < iv 7 x1.toNat → iv' 15 (400 * x1 + k).toNat ≤ M + 40000) ?_ ?_ (iv 7 x1.toNat - 1) iv' (by omega) ⟨by omega, hz.done (fun a i w h => h.elim id (fun h => by obtain ⟨q, h, -⟩ := h; omega)), fun k a b => by have := hb k a b; omega⟩
    · rintro iv2 ⟨-, hz, hb⟩
      apply sX12_push_110
      refine ⟨fun _ => k iv2 (hz.done (fun a i w h => ?_)) hb, fun h => by omega⟩
      obtain ⟨q, hq, h | h | h⟩ := h
      · exact Or.inl ⟨q, hq, Or.inl h⟩
      · exact Or.inl ⟨q, hq, Or.inr h⟩
      · exact Or.inr ⟨q, by omega, h⟩
    · rintro n iv2 hn ⟨hn1, hz, hb⟩ ih
      obtain ⟨e7, e8, e5, e6⟩ := f7 hz
      apply sX12_push_110
      rw [e6]
      have a1 := hb n (by omega) (by omega)
      have a2 := hz.2.2.1 (400 * x1 + n).toNat
      have a3 := h5 n (by omega) (by omega)
      refine ⟨fun h => by omega, fun _ => ⟨by omega, by omega, by omega, by omega, by omega, by omega, by omega, ?_⟩⟩
      rw [show n + -1 = n - 1 by omega]
      refine ih _ ⟨by omega, (hz.step (a := (400 * x1 + n).toNat) (w := - iv 0 6) (by omega) ⟨n, by omega, Or.inr (Or.inr ⟨rfl, rfl, rfl⟩)⟩).done (fun a i w h => ?_), fun q b1 b2 => ?_⟩
      · rcases h with h | ⟨q, hq, h⟩
        · exact Or.inl (Or.inl h)
        · by_cases e : q = n
          · rw [e] at h; exact Or.inr h
          · exact Or.inl (Or.inr ⟨q, by omega, h⟩)
      · rw [mraise_15]
        have := hb q b1 b2
        split <;> omega
  · rintro n iv' hn ⟨hn0, hz, hb⟩ ih
    obtain ⟨e7, e8, e5, e6⟩ := f7 hz
    -- the second raising
    have sec : ∀ iv2, Rz iv iv2 (SideC iv x1) (fun a i w => SideF iv x1 n a i w ∨ (1 ≤ n ∧ a = (400 * x1 + (n - 1)).toNat ∧ i = (400 * x1 + n).toNat ∧ w = 0)) → (∀ k : Int, 0 ≤ k → k < iv 7 x1.toNat → iv2 15 (400 * x1 + k).toNat ≤ M + 100 * n) → Z G mX12_push (d + 1) 0 0 37 [vr (some 0), vi x1, vi n] [] (mkM iv2) K := by
      intro iv2 hz hb
      obtain ⟨e7, e8, e5, e6⟩ := f7 hz
      apply sX12_push_37
      rw [e8, e5]
      have a1 := hb n (by omega) (by omega)
      have a2 := hz.2.2.1 (400 * x1 + n).toNat
      have a3 := h5 n (by omega) (by omega)
      have a4 := h4 n (by omega) (by omega)
      refine ⟨fun h => ⟨by omega, ih _ ⟨by omega, hz.done (fun a i w h => ?_), fun q b1 b2 => by have := hb q b1 b2; omega⟩⟩, fun h => ?_⟩
      · obtain ⟨q, hq, hh⟩ := h
        by_cases e : q = n
        · rw [e] at hh
          rcases hh with hh | hh
          · exact Or.inr ⟨by omega, hh⟩
          · omega
        · exact Or.inl ⟨q, by omega, hh⟩
      · have b1 := hb (n - 8) (by omega) (by omega)
        have b2 := hz.2.2.1 (400 * x1 + (n - 8)).toNat
        have b3 := h5 (n - 8) (by omega) (by omega)
        have b4 := h4 (n - 8) (by omega) (by omega)
        refine ⟨by omega, by omega, by omega, by omega, by omega, by omega, by omega, by omega, by omega, by omega, by omega, by omega, by omega, by omega, ?_⟩
        refine ih _ ⟨by omega, (hz.step (a := (400 * x1 + (n - 8)).toNat) (w := iv 8 (400 * x1 + n).toNat + iv 8 (400 * x1 + (n - 8)).toNat + iv 0 5) (by omega) ⟨n, by omega, Or.inr (Or.inl ⟨h, rfl, rfl, rfl⟩)⟩).done (fun a i w h => ?_), fun q c1 c2 => ?_⟩
        · obtain ⟨q, hq, hh⟩ := h
          by_cases e : q = n
          · rw [e] at hh
            rcases hh with hh | hh
            · exact Or.inl (Or.inr ⟨by omega, hh⟩)
            · exact Or.inr ⟨hh.2.1, hh.2.2.1, hh.2.2.2⟩
          · exact Or.inl (Or.inl ⟨q, by omega, hh⟩)
        · rw [mraise_15]
          have := hb q c1 c2
          split <;> omega
    apply sX12_push_2
    rw [e7]
    refine ⟨by omega, fun h => by omega, fun _ => ⟨fun h => sec iv' (hz.done (fun a i w h => h.elim id (fun h => by omega))) hb, fun h => ?_⟩⟩
    have b1 := hb (n - 1) (by omega) (by omega)
    refine ⟨by omega, by omega, by omega, by omega, by omega, sec _ ((hz.step (a := (400 * x1 + (n - 1)).toNat) (w := 0) (by omega) ⟨n, by omega, Or.inl ⟨rfl, rfl, rfl⟩⟩).done (fun a i w h => ?_)) (fun q c1 c2 => ?_)⟩
    · rcases h with h | h
      · exact Or.inl h
      · exact Or.inr h.2
    · rw [mraise_15]
      have := hb q c1 c2
      split <;> omega
/-- PLACES -/
def Pl (n : Int) (lv : Int → Int) (land feed : Int) (p : Int → Int) : Prop := (∀ k, 0 ≤ k → k < n → 0 ≤ p k) ∧ (∀ k, 1 ≤ k → k < n → p (k - 1) ≤ p k ∧ p k ≤ p (k - 1) + feed) ∧ (∀ k, 8 ≤ k → k < n → p (k - 8) + lv (k - 8) + lv k + land ≤ p k)
/-- LEAST PLACES -/
def Least (n : Int) (lv : Int → Int) (land feed : Int) (p : Int → Int) : Prop := Pl n lv land feed p ∧ ∀ q, Pl n lv land feed q → ∀ k, 0 ≤ k → k < n → p k ≤ q k
theorem Least.uniq {n : Int} {lv lv' : Int → Int} {land feed : Int} {p p' : Int → Int} (hl : ∀ k, 0 ≤ k → k < n → lv k = lv' k) (h : Least n lv land feed p) (h' : Least n lv' land feed p') : ∀ k, 0 ≤ k → k < n → p k = p' k := by
  have c : ∀ q, Pl n lv land feed q ↔ Pl n lv' land feed q := by
    intro q
    unfold Pl
    constructor
    · rintro ⟨a, b, c⟩
      exact ⟨a, b, fun k h1 h2 => by rw [← hl k (by omega) h2, ← hl (k - 8) (by omega) (by omega)]; exact c k h1 h2⟩
    · rintro ⟨a, b, c⟩
      exact ⟨a, b, fun k h1 h2 => by rw [hl k (by omega) h2, hl (k - 8) (by omega) (by omega)]; exact c k h1 h2⟩
  intro k h1 h2
  have e1 := h.2 p' ((c p').mpr h'.1) k h1 h2
  have e2 := h'.2 p ((c p).mp h.1) k h1 h2
  omega
theorem Pl_U {n : Int} {lv : Int → Int} {land feed : Int} (hf : 0 ≤ feed) (hs : ∀ k, 8 ≤ k → k < n → lv k + lv (k - 8) + land ≤ 8 * feed) : Pl n lv land feed (fun k => k * feed) := by
  refine ⟨fun k h1 _ => Int.mul_nonneg h1 hf, fun k h1 _ => ?_, fun k h1 h2 => ?_⟩
  · have : k * feed = (k - 1) * feed + feed := by rw [Int.sub_mul]; omega
    dsimp only
    omega
  · have : k * feed = (k - 8) * feed + 8 * feed := by rw [Int.sub_mul]; omega
    have := hs k h1 h2
    dsimp only
    omega
def sm (f : Nat → Int) (n : Nat) : Int := match n with
  | 0 => 0
  | n + 1 => sm f n + f n
theorem sm_le {f g : Nat → Int} : ∀ (n : Nat), (∀ k, k < n → f k ≤ g k) → sm f n ≤ sm g n
  | 0, _ => Int.le_refl _
  | n + 1, h => by
    have := sm_le n (fun k hk => h k (by omega))
    have := h n (by omega)
    unfold sm
    omega
theorem sm_lt {f g : Nat → Int} : ∀ (n : Nat), (∀ k, k < n → f k ≤ g k) → (∃ k, k < n ∧ f k < g k) → sm f n < sm g n
  | 0, _, h => by obtain ⟨k, hk, -⟩ := h; omega
  | n + 1, h, h2 => by
    have h0 := h n (by omega)
    obtain ⟨k, hk, hlt⟩ := h2
    unfold sm
    by_cases e : k = n
    · subst e
      have := sm_le k (fun j hj => h j (by omega))
      omega
    · have := sm_lt n (fun j hj => h j (by omega)) ⟨k, by omega, hlt⟩
      omega
set_option maxRecDepth 20000 in
theorem sX12_spread_0 {G : ZG} {d : Nat} {iv : Nat → Nat → Int} {K : Option AV → AH → Prop} {x1 : Int} (h : Z G mX12_spread (d + 2) 0 0 2 [vr (some 0), vi x1, vi 0] [] (mkM iv) K) : Z G mX12_spread (d + 2) 0 0 0 [vr (some 0), vi x1, vu] [] (mkM iv) K := (Z_iconst (dX12_spread 0) ⟨by decide, by decide⟩ (Z_istore_n (dX12_spread 1) (Nat.le_of_ble_eq_true rfl) rfl h))
set_option maxRecDepth 20000 in
theorem sX12_spread_2 {G : ZG} {d : Nat} {iv : Nat → Nat → Int} {K : Option AV → AH → Prop} {x1 x2 : Int} (h : (0 ≤ x1 ∧ x1 < (2 : Nat)) ∧ (((iv 7 ((x1).toNat)) ≤ x2 → (Z G mX12_spread (d + 2) 0 0 34 [vr (some 0), vi x1, vu] [] (mkM (iu iv 0 20 1)) K)) ∧ (x2 < (iv 7 ((x1).toNat)) → ((0 ≤ x1 ∧ x1 ≤ 1 ∧ -1000 ≤ x2 ∧ x2 ≤ 1000) ∧ ((0 ≤ (400 * x1 + x2) ∧ (400 * x1 + x2) < (800 : Nat)) ∧ ((-2147483648 ≤ (x2 + 1) ∧ (x2 + 1) ≤ 2147483647) ∧ (Z G mX12_spread (d + 2) 0 0 2 [vr (some 0), vi x1, vi (x2 + 1)] [] (mkM (iu iv 15 ((400 * x1 + x2).toNat) 0)) K))))))) : Z G mX12_spread (d + 2) 0 0 2 [vr (some 0), vi x1, vi x2] [] (mkM iv) K := (Z_iload_n (dX12_spread 2) rfl (Z_aload_n (dX12_spread 3) rfl (Z_gRM (r := (some 7)) (dX12_spread 4) lk_X12_39 sM0 rfl rfl (Z_iload_n (dX12_spread 5) rfl (Z_ilM (x := (iv 7 ((x1).toNat))) (dX12_spread 6) sM7 h.1 rfl (Z_icmp_ge (dX12_spread 7) rfl (fun c1 => (Z_aload_n (dX12_spread 17) rfl (Z_iconst (dX12_spread 18) ⟨by decide, by decide⟩ (Z_putZM (dX12_spread 19) lk_X12_256 sM0 rfl (Or.inr rfl) (Or.inl rfl) (Z.fg (L' := [vr (some 0), vi x1, vu]) (L := [vr (some 0), vi x1, vi x2]) ⟨Or.inl rfl, ⟨Or.inl rfl, ⟨Or.inr rfl, trivial⟩⟩⟩ (h.2.1 c1)))))) (fun c2 => (Z_aload_n (dX12_spread 8) rfl (Z_gRM (r := (some 15)) (dX12_spread 9) lk_X12_63 sM0 rfl rfl (Z_iload_n (dX12_spread 10) rfl (Z_iload_n (dX12_spread 11) rfl (Z_cS (As := [vi x1, vi x2]) (S := [vr (some 15)]) (dX12_spread 12) lk_X12_245 rfl (Nat.le_of_ble_eq_true rfl) (Nat.le_of_ble_eq_true rfl) (M_at  (h.2.2 c2).1 ((Z_iconst (dX12_spread 13) ⟨by decide, by decide⟩ (Z_iastM (dX12_spread 14) sM15 (h.2.2 c2).2.1 (Z_iinc (dX12_spread 15) rfl (Nat.le_of_ble_eq_true rfl) (h.2.2 c2).2.2.1 rfl (Z_goto (dX12_spread 16) rfl (h.2.2 c2).2.2.2))))))))))))))))))
set_option maxRecDepth 20000 in
theorem sX12_spread_34 {G : ZG} {d : Nat} {iv : Nat → Nat → Int} {K : Option AV → AH → Prop} {x1 : Int} (h : ((iv 0 20) = 0 → (K none (mkM iv))) ∧ (¬ (iv 0 20) = 0 → (Z G mX12_push (d + 1) 0 0 0 [vr (some 0), vi x1, vu] [] (mkM (iu iv 0 20 0)) (fun r A1 => Z G mX12_spread (d + 2) 0 0 51 [vr (some 0), vi x1, vu] (r.toList ++ []) A1 K)))) : Z G mX12_spread (d + 2) 0 0 34 [vr (some 0), vi x1, vu] [] (mkM iv) K := (Z_aload_n (dX12_spread 20) rfl (Z_gIM (x := (iv 0 20)) (dX12_spread 21) lk_X12_256 sM0 (Or.inr rfl) rfl (Z_if_eq (dX12_spread 22) rfl (fun c1 => (Z_return (dX12_spread 30) rfl (h.1 c1))) (fun c2 => (Z_aload_n (dX12_spread 23) rfl (Z_iconst (dX12_spread 24) ⟨by decide, by decide⟩ (Z_putZM (dX12_spread 25) lk_X12_256 sM0 rfl (Or.inl rfl) (Or.inl rfl) (Z_aload_n (dX12_spread 26) rfl (Z_iload_n (dX12_spread 27) rfl (Z_cVM (As := [vi x1]) (S := []) (dX12_spread 28) lk_X12_264 sM0 (by decide) rfl rfl (Nat.le_of_ble_eq_true rfl) (Nat.le_of_ble_eq_true rfl) (h.2 c2)))))))))))
set_option maxRecDepth 20000 in
theorem sX12_spread_51 {G : ZG} {d : Nat} {iv : Nat → Nat → Int} {K : Option AV → AH → Prop} {x1 : Int} (h : Z G mX12_spread (d + 2) 0 0 34 [vr (some 0), vi x1, vu] [] (mkM iv) K) : Z G mX12_spread (d + 2) 0 0 51 [vr (some 0), vi x1, vu] [] (mkM iv) K := (Z_goto (dX12_spread 29) rfl h)
def leastM (iv iv' : Nat → Nat → Int) (s : Int) : Prop := Least (iv 7 s.toNat) (fun k => iv 8 (400 * s + k).toNat) (iv 0 5) (iv 0 6) (fun k => iv' 15 (400 * s + k).toNat)
theorem stuckM_none {iv : Nat → Nat → Int} {s : Int} : stuckM iv s = -1 ↔ ∀ k, 8 ≤ k → k < iv 7 s.toNat → iv 8 (400 * s + k).toNat + iv 8 (400 * s + (k - 8)).toNat + iv 0 5 ≤ 8 * iv 0 6 := by
  unfold stuckM
  rw [ffirst_none _ _ (by omega)]
  constructor
  · intro h k h1 h2
    have := h k h1 (by omega)
    omega
  · intro h k h1 h2
    have := h k h1 (by omega)
    omega
theorem M_spread {G : ZG} {d : Nat} {iv : Nat → Nat → Int} {K : Option AV → AH → Prop} {x1 : Int} (h0 : okSide iv x1) (hst : stuckM iv x1 = -1) (k : ∀ iv', (∀ i j, i ≠ 15 → ¬ (i = 0 ∧ j = 20) → iv' i j = iv i j) ∧ leastM iv iv' x1 → K none (mkM iv')) : Z G mX12_spread (d + 2) 0 0 0 [vr (some 0), vi x1, vu] [] (mkM iv) K := by
  obtain ⟨h1, h2, h3, h4⟩ := h0
  rw [stuckM_none] at hst
  apply sX12_spread_0
  refine lp_up (P := fun k iv' => Z G mX12_spread (d + 2) 0 0 2 [vr (some 0), vi x1, vi k] [] (mkM iv') K) (iv 7 x1.toNat) (fun n iv' => 0 ≤ n ∧ iv' = ifill iv 15 (400 * x1).toNat (400 * x1 + n).toNat 0) ?_ ?_ 0 iv (by omega) ⟨by omega, by rw [show 400 * x1 + 0 = 400 * x1 by omega, ifill_nil]⟩
  · rintro iv' ⟨-, rfl⟩
    apply sX12_spread_2
    rw [ifill_row (i := 7) (by decide)]
    refine ⟨by omega, fun _ => ?_, fun h => by omega⟩
    have hU : Pl (iv 7 x1.toNat) (fun k => iv 8 (400 * x1 + k).toNat) (iv 0 5) (iv 0 6) (fun k => k * iv 0 6) := Pl_U (by omega) (fun k a b => by have := hst k a b; omega)
    -- the loop of raisings
    have key : ∀ iv1, ((∀ i j, i ≠ 15 → ¬ (i = 0 ∧ j = 20) → iv1 i j = iv i j) ∧ (∀ k : Int, 0 ≤ k → k < iv 7 x1.toNat → 0 ≤ iv1 15 (400 * x1 + k).toNat) ∧ (∀ q, Pl (iv 7 x1.toNat) (fun k => iv 8 (400 * x1 + k).toNat) (iv 0 5) (iv 0 6) q → ∀ k, 0 ≤ k → k < iv 7 x1.toNat → iv1 15 (400 * x1 + k).toNat ≤ q k) ∧ (iv1 0 20 = 0 → Pl (iv 7 x1.toNat) (fun k => iv 8 (400 * x1 + k).toNat) (iv 0 5) (iv 0 6) (fun k => iv1 15 (400 * x1 + k).toNat))) → Z G mX12_spread (d + 2) 0 0 34 [vr (some 0), vi x1, vu] [] (mkM iv1) K := by
      refine lp_m (P := fun iv1 => Z G mX12_spread (d + 2) 0 0 34 [vr (some 0), vi x1, vu] [] (mkM iv1) K) (fun iv1 => (sm (fun k => k * iv 0 6) (iv 7 x1.toNat).toNat - sm (fun k => iv1 15 (400 * x1 + k).toNat) (iv 7 x1.toNat).toNat).toNat) _ ?_
      rintro iv1 ⟨i1, i2, i3, i4⟩ ih
      apply sX12_spread_34
      refine ⟨fun hm => k iv1 ⟨i1, i4 hm, i3⟩, fun hm => ?_⟩
      have e7 : iu iv1 0 20 0 7 = iv 7 := by rw [iu_row (by decide)]; exact funext fun j => i1 7 j (by decide) (by omega)
      have e8 : iu iv1 0 20 0 8 = iv 8 := by rw [iu_row (by decide)]; exact funext fun j => i1 8 j (by decide) (by omega)
      have e5 : iu iv1 0 20 0 0 5 = iv 0 5 := by rw [iu_k (by decide)]; exact i1 0 5 (by decide) (by omega)
      have e6 : iu iv1 0 20 0 0 6 = iv 0 6 := by rw [iu_k (by decide)]; exact i1 0 6 (by decide) (by omega)
      have e15 : iu iv1 0 20 0 15 = iv1 15 := iu_row (by decide)
      have ub : ∀ k : Int, 0 ≤ k → k < iv 7 x1.toNat → iv1 15 (400 * x1 + k).toNat ≤ 8000 := by
        intro k a b
        have := i3 _ hU k a b
        have h8 : k * iv 0 6 ≤ 400 * 20 := Int.mul_le_mul (by omega) (by omega) (by omega) (by omega)
        omega
      refine M_push (M := 8000) h1 (by rw [e7]; exact h2) (by rw [e5, e6]; exact h3) (by rw [e7, e8]; exact h4) (by omega) (by rw [e7, e15]; exact fun k a b => ⟨i2 k a b, ub k a b⟩) ?_
      intro iv2 hz _
      apply sX12_spread_51
      obtain ⟨z1, z2, z3, z4, z5, z6⟩ := hz
      rw [e15] at z3 z4 z5 z6
      have hSa : ∀ a i w, SideC (iu iv1 0 20 0) x1 a i w ↔ SideC iv x1 a i w := by
        intro a i w
        unfold SideC
        rw [e7, e8, e5, e6]
      -- a solution of the side's bounds, beside what lies elsewhere
      have ext : ∀ q, Pl (iv 7 x1.toNat) (fun k => iv 8 (400 * x1 + k).toNat) (iv 0 5) (iv 0 6) q → (∀ k, 0 ≤ k → k < iv 7 x1.toNat → iv1 15 (400 * x1 + k).toNat ≤ q k) → ∀ j : Nat, iv2 15 j ≤ if 400 * x1 ≤ j ∧ j < 400 * x1 + iv 7 x1.toNat then q (j - 400 * x1) else iv1 15 j := by
        intro q hq hle
        refine z4 (fun j => if 400 * x1 ≤ j ∧ j < 400 * x1 + iv 7 x1.toNat then q (j - 400 * x1) else iv1 15 j) (fun j => ?_) (fun a i w hs => ?_)
        · by_cases c : 400 * x1 ≤ j ∧ j < 400 * x1 + iv 7 x1.toNat
          · have := hle (j - 400 * x1) (by omega) (by omega)
            rw [show (400 * x1 + ((j : Int) - 400 * x1)).toNat = j by omega] at this
            simp only [c, and_self, if_true]
            exact this
          · simp only [c, if_false]
            omega
        · obtain ⟨k, hk, hs⟩ := (hSa a i w).mp hs
          rcases hs with ⟨rfl, rfl, rfl⟩ | ⟨h8, rfl, rfl, rfl⟩ | ⟨rfl, rfl, rfl⟩
          · have := hq.2.1 k (by omega) (by omega)
            try dsimp only
            rw [if_pos (by omega), if_pos (by omega), show (((400 * x1 + (k - 1)).toNat : Nat) : Int) - 400 * x1 = k - 1 by omega, show (((400 * x1 + k).toNat : Nat) : Int) - 400 * x1 = k by omega]
            omega
          · have := hq.2.2 k h8 (by omega)
            dsimp only at this ⊢
            rw [if_pos (by omega), if_pos (by omega), show (((400 * x1 + (k - 8)).toNat : Nat) : Int) - 400 * x1 = k - 8 by omega, show (((400 * x1 + k).toNat : Nat) : Int) - 400 * x1 = k by omega]
            omega
          · have := hq.2.1 k (by omega) (by omega)
            try dsimp only
            rw [if_pos (by omega), if_pos (by omega), show (((400 * x1 + (k - 1)).toNat : Nat) : Int) - 400 * x1 = k - 1 by omega, show (((400 * x1 + k).toNat : Nat) : Int) - 400 * x1 = k by omega]
            omega
      have inq : ∀ q, Pl (iv 7 x1.toNat) (fun k => iv 8 (400 * x1 + k).toNat) (iv 0 5) (iv 0 6) q → ∀ k, 0 ≤ k → k < iv 7 x1.toNat → iv2 15 (400 * x1 + k).toNat ≤ q k := by
        intro q hq k a b
        have := ext q hq (i3 q hq) (400 * x1 + k).toNat
        rw [if_pos (by omega), show (((400 * x1 + k).toNat : Nat) : Int) - 400 * x1 = k by omega] at this
        exact this
      have j1 : ∀ i j, i ≠ 15 → ¬ (i = 0 ∧ j = 20) → iv2 i j = iv i j := fun i j a b => by rw [z1 i j a b, iu_ap, if_neg b]; exact i1 i j a b
      have j2 : ∀ k : Int, 0 ≤ k → k < iv 7 x1.toNat → 0 ≤ iv2 15 (400 * x1 + k).toNat := fun k a b => by
        have := z3 (400 * x1 + k).toNat
        have := i2 k a b
        omega
      by_cases hm2 : iv2 0 20 = 1
      · refine ih iv2 ⟨j1, j2, inq, fun h => by omega⟩ ?_
        rcases z6 hm2 with g | ⟨j, g⟩
        · rw [iu_eq] at g; omega
        · have e := ext _ hU (i3 _ hU) j
          by_cases c : 400 * x1 ≤ j ∧ j < 400 * x1 + iv 7 x1.toNat
          · have l1 : sm (fun k => iv1 15 (400 * x1 + k).toNat) (iv 7 x1.toNat).toNat < sm (fun k => iv2 15 (400 * x1 + k).toNat) (iv 7 x1.toNat).toNat := by
              refine sm_lt _ (fun k hk => z3 _) ⟨j - (400 * x1).toNat, by omega, ?_⟩
              rw [show (400 * x1 + ((j - (400 * x1).toNat : Nat) : Int)).toNat = j by omega]
              exact g
            have l2 : sm (fun k => iv2 15 (400 * x1 + k).toNat) (iv 7 x1.toNat).toNat ≤ sm (fun k => k * iv 0 6) (iv 7 x1.toNat).toNat := sm_le _ (fun k hk => inq _ hU k (by omega) (by omega))
            omega
          · rw [if_neg c] at e
            omega
      · obtain ⟨g1, g2⟩ := z5 hm2
        have pl : Pl (iv 7 x1.toNat) (fun k => iv 8 (400 * x1 + k).toNat) (iv 0 5) (iv 0 6) (fun k => iv2 15 (400 * x1 + k).toNat) := by
          refine ⟨j2, fun k a b => ?_, fun k a b => ?_⟩
          · have q1 := g2 _ _ _ ((hSa _ _ _).mpr ⟨k, ⟨a, b⟩, Or.inl ⟨rfl, rfl, rfl⟩⟩)
            have q2 := g2 _ _ _ ((hSa _ _ _).mpr ⟨k, ⟨a, b⟩, Or.inr (Or.inr ⟨rfl, rfl, rfl⟩)⟩)
            dsimp only
            rw [g1]
            omega
          · have q1 := g2 _ _ _ ((hSa _ _ _).mpr ⟨k, ⟨by omega, b⟩, Or.inr (Or.inl ⟨a, rfl, rfl, rfl⟩)⟩)
            dsimp only
            rw [g1]
            omega
        have hm0 : iv2 0 20 = 0 := by
          rcases z2 with g | g
          · rw [g, iu_eq]
          · exact absurd g hm2
        -- one turn more, which ends
        apply sX12_spread_34
        exact ⟨fun _ => k iv2 ⟨j1, pl, inq⟩, fun h => absurd hm0 h⟩
    refine key _ ⟨fun i j a b => ?_, fun k a b => ?_, fun q hq k a b => ?_, fun h => ?_⟩
    · rw [iu_ap, if_neg b, ifill_row a]
    · rw [iu_o (by decide), ifill_ap, if_pos (by omega)]
      omega
    · rw [iu_o (by decide), ifill_ap, if_pos (by omega)]
      exact hq.1 k a b
    · rw [iu_eq] at h
      omega
  · rintro n iv' hn ⟨hn0, rfl⟩ ih
    apply sX12_spread_2
    rw [ifill_row (i := 7) (by decide)]
    refine ⟨by omega, fun h => by omega, fun _ => ⟨by omega, by omega, by omega, ih _ ⟨by omega, ?_⟩⟩⟩
    rw [ifill_snoc (by omega)]; congr 1; omega

