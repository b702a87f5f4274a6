/-! ===== sides: the model ===== -/
theorem iu_self {iv : Nat → Nat → Int} {o k : Nat} : iu iv o k (iv o k) = iv := by
  funext i j
  rw [iu_ap]
  split
  · rename_i h; rw [h.1, h.2]
  · rfl
/-- the first from a on, of so many, or -1 -/
def ffirst (P : Int → Prop) [DecidablePred P] (a : Int) (m : Nat) : Int := match m with
  | 0 => -1
  | m + 1 => if P a then a else ffirst P (a + 1) m
theorem ffirst_congr {P Q : Int → Prop} [DecidablePred P] [DecidablePred Q] : ∀ (m : Nat) (a : Int), (∀ k, a ≤ k → k < a + m → (P k ↔ Q k)) → ffirst P a m = ffirst Q a m
  | 0, _, _ => rfl
  | m + 1, a, h => by
    unfold ffirst
    have ih := ffirst_congr m (a + 1) (fun k h1 h2 => h k (by omega) (by omega))
    have h0 := h a (by omega) (by omega)
    by_cases hp : P a
    · rw [if_pos hp, if_pos (h0.mp hp)]
    · rw [if_neg hp, if_neg (fun q => hp (h0.mpr q)), ih]
theorem ffirst_none {P : Int → Prop} [DecidablePred P] : ∀ (m : Nat) (a : Int), 0 ≤ a → (ffirst P a m = -1 ↔ ∀ k, a ≤ k → k < a + m → ¬ P k)
  | 0, a, h0 => by
    unfold ffirst
    exact ⟨fun _ k h1 h2 => by omega, fun _ => rfl⟩
  | m + 1, a, h0 => by
    unfold ffirst
    have ih := ffirst_none (P := P) m (a + 1) (by omega)
    by_cases hp : P a
    · rw [if_pos hp]
      exact ⟨fun h => by omega, fun h => absurd hp (h a (by omega) (by omega))⟩
    · rw [if_neg hp, ih]
      refine ⟨fun h k h1 h2 => ?_, fun h k h1 h2 => h k (by omega) (by omega)⟩
      by_cases e : k = a
      · rw [e]; exact hp
      · exact h k (by omega) (by omega)
theorem ffirst_r {P : Int → Prop} [DecidablePred P] : ∀ (m : Nat) (a : Int), 0 ≤ a → ffirst P a m = -1 ∨ (a ≤ ffirst P a m ∧ ffirst P a m < a + m ∧ P (ffirst P a m))
  | 0, a, h0 => Or.inl rfl
  | m + 1, a, h0 => by
    unfold ffirst
    by_cases hp : P a
    · rw [if_pos hp]; exact Or.inr ⟨by omega, by omega, hp⟩
    · rw [if_neg hp]
      rcases ffirst_r (P := P) m (a + 1) (by omega) with h | ⟨h1, h2, h3⟩
      · exact Or.inl h
      · exact Or.inr ⟨by omega, by omega, h3⟩
set_option maxRecDepth 20000 in
theorem sX12_isSide_0 {G : ZG} {d : Nat} {iv : Nat → Nat → Int} {K : Option AV → AH → Prop} {x0 : Int} (h : (x0 = 0 → (K (some (vi 1)) (mkM iv))) ∧ (¬ x0 = 0 → ((¬ x0 = 1 → (K (some (vi 0)) (mkM iv))) ∧ (x0 = 1 → (K (some (vi 1)) (mkM iv)))))) : Z G mX12_isSide d 0 0 0 [vi x0] [] (mkM iv) K := (Z_iload_n (dX12_isSide 0) rfl (Z_if_eq (dX12_isSide 1) rfl (fun c1 => (Z_iconst (dX12_isSide 5) ⟨by decide, by decide⟩ (Z_goto (dX12_isSide 6) rfl (Z_zreturn (dX12_isSide 8) rfl (Or.inr rfl) (h.1 c1))))) (fun c2 => (Z_iload_n (dX12_isSide 2) rfl (Z_iconst (dX12_isSide 3) ⟨by decide, by decide⟩ (Z_icmp_ne (dX12_isSide 4) rfl (fun c3 => (Z_iconst (dX12_isSide 7) ⟨by decide, by decide⟩ (Z_zreturn (dX12_isSide 8) rfl (Or.inl rfl) ((h.2 c2).1 c3)))) (fun c4 => (Z_iconst (dX12_isSide 5) ⟨by decide, by decide⟩ (Z_goto (dX12_isSide 6) rfl (Z_zreturn (dX12_isSide 8) rfl (Or.inr rfl) ((h.2 c2).2 c4)))))))))))
theorem M_isSide {G : ZG} {d : Nat} {iv : Nat → Nat → Int} {K : Option AV → AH → Prop} {x0 : Int} (k : K (some (vi (b01 (0 ≤ x0 ∧ x0 ≤ 1)))) (mkM iv)) : Z G mX12_isSide d 0 0 0 [vi x0] [] (mkM iv) K := by
  apply sX12_isSide_0
  refine ⟨fun h1 => ?_, fun h1 => ⟨fun h2 => ?_, fun h2 => ?_⟩⟩
  all_goals (try omega)
  · exact K_i (b01_t (by omega)) k
  · exact K_i (b01_f (by omega)) k
  · exact K_i (b01_t (by omega)) k
set_option maxRecDepth 20000 in
theorem sX12_at_0 {G : ZG} {d : Nat} {iv : Nat → Nat → Int} {K : Option AV → AH → Prop} {x0 x1 : Int} (h : (-2147483648 ≤ (400 * x0) ∧ (400 * x0) ≤ 2147483647) ∧ ((-2147483648 ≤ ((400 * x0) + x1) ∧ ((400 * x0) + x1) ≤ 2147483647) ∧ (K (some (vi ((400 * x0) + x1))) (mkM iv)))) : Z G mX12_at d 0 0 0 [vi x0, vi x1] [] (mkM iv) K := (Z_sipush (dX12_at 0) ⟨by decide, by decide⟩ (Z_iload_n (dX12_at 1) rfl (Z_imul (dX12_at 2) h.1 (Z_iload_n (dX12_at 3) rfl (Z_iadd (dX12_at 4) h.2.1 (Z_ireturn (dX12_at 5) rfl h.2.2))))))
theorem M_at {G : ZG} {d : Nat} {iv : Nat → Nat → Int} {K : Option AV → AH → Prop} {x0 x1 : Int} (h : 0 ≤ x0 ∧ x0 ≤ 1 ∧ -1000 ≤ x1 ∧ x1 ≤ 1000) (k : K (some (vi (400 * x0 + x1))) (mkM iv)) : Z G mX12_at d 0 0 0 [vi x0, vi x1] [] (mkM iv) K := by
  apply sX12_at_0
  exact ⟨by omega, by omega, k⟩
set_option maxRecDepth 20000 in
theorem sX12_empty_0 {G : ZG} {d : Nat} {iv : Nat → Nat → Int} {K : Option AV → AH → Prop} {x1 : Int} (h : (0 ≤ x1 ∧ x1 < (2 : Nat)) ∧ ((0 ≤ x1 ∧ x1 < (2 : Nat)) ∧ (K none (mkM (iu (iu iv 7 ((x1).toNat) 0) 10 ((x1).toNat) (-1)))))) : Z G mX12_empty d 0 0 0 [vr (some 0), vi x1] [] (mkM iv) K := (Z_aload_n (dX12_empty 0) rfl (Z_gRM (r := (some 7)) (dX12_empty 1) lk_X12_39 sM0 rfl rfl (Z_iload_n (dX12_empty 2) rfl (Z_iconst (dX12_empty 3) ⟨by decide, by decide⟩ (Z_iastM (dX12_empty 4) sM7 h.1 (Z_aload_n (dX12_empty 5) rfl (Z_gRM (r := (some 10)) (dX12_empty 6) lk_X12_48 sM0 rfl rfl (Z_iload_n (dX12_empty 7) rfl (Z_iconst (dX12_empty 8) ⟨by decide, by decide⟩ (Z_iastM (dX12_empty 9) sM10 h.2.1 (Z_return (dX12_empty 10) rfl h.2.2)))))))))))
theorem M_empty {G : ZG} {d : Nat} {iv : Nat → Nat → Int} {K : Option AV → AH → Prop} {x1 : Int} (h : 0 ≤ x1 ∧ x1 ≤ 1) (k : K none (mkM (iu (iu iv 7 x1.toNat 0) 10 x1.toNat (-1)))) : Z G mX12_empty d 0 0 0 [vr (some 0), vi x1] [] (mkM iv) K := by
  apply sX12_empty_0
  exact ⟨by omega, by omega, k⟩
set_option maxRecDepth 20000 in
theorem sX12_anew_0 {G : ZG} {d : Nat} {iv : Nat → Nat → Int} {K : Option AV → AH → Prop} {x1 : Int} (h : (0 ≤ x1 ∧ x1 ≤ 1 → ((0 ≤ x1 ∧ x1 ≤ 1) ∧ (K (some (vi 1)) (mkM (iu (iu (iu iv 7 (x1).toNat 0) 10 (x1).toNat (-1)) 0 0 0))))) ∧ (¬ (0 ≤ x1 ∧ x1 ≤ 1) → (K (some (vi 0)) (mkM (iu iv 0 0 1))))) : Z G mX12_anew (d + 1) 0 0 0 [vr (some 0), vi x1] [] (mkM iv) K := (Z_iload_n (dX12_anew 0) rfl (Z_cS (As := [vi x1]) (S := []) (dX12_anew 1) lk_X12_238 rfl (Nat.le_of_ble_eq_true rfl) (Nat.le_of_ble_eq_true rfl) (M_isSide  ((Z_if_ne (dX12_anew 2) rfl (fun c1 => (Z_aload_n (dX12_anew 7) rfl (Z_iload_n (dX12_anew 8) rfl (Z_cVM (As := [vi x1]) (S := []) (dX12_anew 9) lk_X12_241 sM0 (by decide) rfl rfl (Nat.le_of_ble_eq_true rfl) (Nat.le_of_ble_eq_true rfl) (M_empty  (h.1 (b01_n.mp c1)).1 ((Z_aload_n (dX12_anew 10) rfl (Z_iconst (dX12_anew 11) ⟨by decide, by decide⟩ (Z_cVM (As := [vi 0]) (S := []) (dX12_anew 12) lk_X12_205 sM0 (by decide) rfl rfl (Nat.le_of_ble_eq_true rfl) (Nat.le_of_ble_eq_true rfl) (M_isT  ((Z_zreturn (dX12_anew 13) rfl (Or.inr rfl) (h.1 (b01_n.mp c1)).2)))))))))))) (fun c2 => (Z_aload_n (dX12_anew 3) rfl (Z_iconst (dX12_anew 4) ⟨by decide, by decide⟩ (Z_cVM (As := [vi 1]) (S := []) (dX12_anew 5) lk_X12_205 sM0 (by decide) rfl rfl (Nat.le_of_ble_eq_true rfl) (Nat.le_of_ble_eq_true rfl) (M_isF (by decide) ((Z_zreturn (dX12_anew 6) rfl (Or.inl rfl) (h.2 (b01_0.mp c2))))))))))))))
set_option maxRecDepth 20000 in
theorem sX12_puts_0 {G : ZG} {d : Nat} {iv : Nat → Nat → Int} {K : Option AV → AH → Prop} {x1 x2 x3 : Int} (h : (0 ≤ x1 ∧ x1 < (2 : Nat)) ∧ ((0 ≤ x1 ∧ x1 ≤ 1 ∧ -1000 ≤ (iv 7 ((x1).toNat)) ∧ (iv 7 ((x1).toNat)) ≤ 1000) ∧ ((0 ≤ (400 * x1 + (iv 7 ((x1).toNat))) ∧ (400 * x1 + (iv 7 ((x1).toNat))) < (800 : Nat)) ∧ ((0 ≤ x1 ∧ x1 < (2 : Nat)) ∧ ((0 ≤ x1 ∧ x1 ≤ 1 ∧ -1000 ≤ (iv 7 ((x1).toNat)) ∧ (iv 7 ((x1).toNat)) ≤ 1000) ∧ ((0 ≤ (400 * x1 + (iv 7 ((x1).toNat))) ∧ (400 * x1 + (iv 7 ((x1).toNat))) < (800 : Nat)) ∧ ((0 ≤ x1 ∧ x1 < (2 : Nat)) ∧ ((-2147483648 ≤ ((iv 7 ((x1).toNat)) + 1) ∧ ((iv 7 ((x1).toNat)) + 1) ≤ 2147483647) ∧ ((0 ≤ x1 ∧ x1 < (2 : Nat)) ∧ (K none (mkM (iu (iu (iu iv 8 ((400 * x1 + (iv 7 ((x1).toNat))).toNat) x2) 9 ((400 * x1 + (iv 7 ((x1).toNat))).toNat) x3) 7 ((x1).toNat) ((iv 7 ((x1).toNat)) + 1))))))))))))) : Z G mX12_puts (d + 1) 0 0 0 [vr (some 0), vi x1, vi x2, vi x3] [] (mkM iv) K := (Z_aload_n (dX12_puts 0) rfl (Z_gRM (r := (some 8)) (dX12_puts 1) lk_X12_42 sM0 rfl rfl (Z_iload_n (dX12_puts 2) rfl (Z_aload_n (dX12_puts 3) rfl (Z_gRM (r := (some 7)) (dX12_puts 4) lk_X12_39 sM0 rfl rfl (Z_iload_n (dX12_puts 5) rfl (Z_ilM (x := (iv 7 ((x1).toNat))) (dX12_puts 6) sM7 h.1 rfl (Z_cS (As := [vi x1, vi (iv 7 ((x1).toNat))]) (S := [vr (some 8)]) (dX12_puts 7) lk_X12_245 rfl (Nat.le_of_ble_eq_true rfl) (Nat.le_of_ble_eq_true rfl) (M_at  h.2.1 ((Z_iload_n (dX12_puts 8) rfl (Z_iastM (dX12_puts 9) sM8 h.2.2.1 (Z_aload_n (dX12_puts 10) rfl (Z_gRM (r := (some 9)) (dX12_puts 11) lk_X12_45 sM0 rfl rfl (Z_iload_n (dX12_puts 12) rfl (Z_aload_n (dX12_puts 13) rfl (Z_gRM (r := (some 7)) (dX12_puts 14) lk_X12_39 sM0 rfl rfl (Z_iload_n (dX12_puts 15) rfl (Z_ilM (x := (iv 7 ((x1).toNat))) (dX12_puts 16) sM7 h.2.2.2.1 ((iu_o (by decide)).trans rfl) (Z_cS (As := [vi x1, vi (iv 7 ((x1).toNat))]) (S := [vr (some 9)]) (dX12_puts 17) lk_X12_245 rfl (Nat.le_of_ble_eq_true rfl) (Nat.le_of_ble_eq_true rfl) (M_at  h.2.2.2.2.1 ((Z_iload_n (dX12_puts 18) rfl (Z_iastM (dX12_puts 19) sM9 h.2.2.2.2.2.1 (Z_aload_n (dX12_puts 20) rfl (Z_gRM (r := (some 7)) (dX12_puts 21) lk_X12_39 sM0 rfl rfl (Z_iload_n (dX12_puts 22) rfl (Z_dup2 (dX12_puts 23) rfl rfl (Z_ilM (x := (iv 7 ((x1).toNat))) (dX12_puts 24) sM7 h.2.2.2.2.2.2.1 ((iu_o (by decide)).trans ((iu_o (by decide)).trans rfl)) (Z_iconst (dX12_puts 25) ⟨by decide, by decide⟩ (Z_iadd (dX12_puts 26) h.2.2.2.2.2.2.2.1 (Z_iastM (dX12_puts 27) sM7 h.2.2.2.2.2.2.2.2.1 (Z_return (dX12_puts 28) rfl h.2.2.2.2.2.2.2.2.2)))))))))))))))))))))))))))))))))
/-- parts laid on a side of the model -/
def layM (iv : Nat → Nat → Int) (s n m : Int) (f : Nat → Int) (w : Int) : Nat → Nat → Int := iu (imap (imap iv 8 (400 * s + n).toNat (400 * s + n + m).toNat f) 9 (400 * s + n).toNat (400 * s + n + m).toNat (fun _ => w)) 7 s.toNat (n + m)
theorem layM_0 {iv : Nat → Nat → Int} {s n w : Int} {f : Nat → Int} (h : iv 7 s.toNat = n) : layM iv s n 0 f w = iv := by
  unfold layM
  rw [show 400 * s + n + 0 = 400 * s + n by omega, imap_nil, imap_nil, show n + 0 = n by omega, ← h, iu_self]
theorem layM_7 {iv : Nat → Nat → Int} {s n m w : Int} {f : Nat → Int} : layM iv s n m f w 7 s.toNat = n + m := iu_eq
theorem layM_o {iv : Nat → Nat → Int} {s n m w : Int} {f : Nat → Int} {i : Nat} (h7 : i ≠ 7) (h8 : i ≠ 8) (h9 : i ≠ 9) : layM iv s n m f w i = iv i := by
  unfold layM
  rw [iu_row h7, imap_row h9, imap_row h8]
theorem layM_s {iv : Nat → Nat → Int} {s n m w x : Int} {f : Nat → Int} (h : 0 ≤ s ∧ 0 ≤ n ∧ 0 ≤ m) (hx : x = f (400 * s + n + m).toNat) : iu (iu (iu (layM iv s n m f w) 8 (400 * s + (n + m)).toNat x) 9 (400 * s + (n + m)).toNat w) 7 s.toNat (n + m + 1) = layM iv s n (m + 1) f w := by
  rw [show 400 * s + (n + m) = 400 * s + n + m by omega]
  funext i j
  unfold layM
  by_cases e7 : i = 7
  · subst e7
    rw [iu_i, iu_i]
    by_cases ej : j = s.toNat
    · rw [if_pos ej, if_pos ej]; omega
    · rw [if_neg ej, if_neg ej, iu_o (by decide), iu_o (by decide), iu_k ej, imap_row (by decide), imap_row (by decide), imap_row (by decide), imap_row (by decide)]
  · rw [iu_o e7, iu_o e7]
    by_cases e9 : i = 9
    · subst e9
      rw [iu_i, iu_o (by decide), iu_o (by decide), imap_ap, imap_row (i := 9) (o := 8) (by decide), imap_ap, imap_row (i := 9) (o := 8) (by decide)]
      by_cases ej : j = (400 * s + n + m).toNat
      · rw [if_pos ej, if_pos (by omega)]
      · rw [if_neg ej]
        by_cases g : 9 = 9 ∧ (400 * s + n).toNat ≤ j ∧ j < (400 * s + n + m).toNat
        · rw [if_pos g, if_pos (by omega)]
        · rw [if_neg g, if_neg (by omega)]
    · rw [iu_o e9, imap_row e9]
      by_cases e8 : i = 8
      · subst e8
        rw [iu_i, iu_o (by decide), imap_row (by decide), imap_ap, imap_ap]
        by_cases ej : j = (400 * s + n + m).toNat
        · rw [if_pos ej, if_pos (by omega), hx, ej]
        · rw [if_neg ej]
          by_cases g : 8 = 8 ∧ (400 * s + n).toNat ≤ j ∧ j < (400 * s + n + m).toNat
          · rw [if_pos g, if_pos (by omega)]
          · rw [if_neg g, if_neg (by omega)]
      · rw [iu_o e8, iu_o e7, imap_row e9, imap_row e8, imap_row e8]
theorem M_puts {G : ZG} {d : Nat} {iv : Nat → Nat → Int} {K : Option AV → AH → Prop} {x1 x2 x3 : Int} (h : 0 ≤ x1 ∧ x1 ≤ 1) (h2 : 0 ≤ iv 7 x1.toNat ∧ iv 7 x1.toNat < 400) (k : K none (mkM (iu (iu (iu iv 8 (400 * x1 + iv 7 x1.toNat).toNat x2) 9 (400 * x1 + iv 7 x1.toNat).toNat x3) 7 x1.toNat (iv 7 x1.toNat + 1)))) : Z G mX12_puts (d + 1) 0 0 0 [vr (some 0), vi x1, vi x2, vi x3] [] (mkM iv) K := by
  apply sX12_puts_0
  refine ⟨?_, ⟨?_, ⟨?_, ⟨?_, ⟨?_, ⟨?_, ⟨?_, ⟨?_, ⟨?_, ?_⟩⟩⟩⟩⟩⟩⟩⟩⟩
  all_goals (try omega)
/-- one more of a row of parts -/
theorem M_putsL {G : ZG} {d : Nat} {iv : Nat → Nat → Int} {K : Option AV → AH → Prop} {x1 x2 x3 n m : Int} {f : Nat → Int} (h : 0 ≤ x1 ∧ x1 ≤ 1) (hn : 0 ≤ n ∧ 0 ≤ m ∧ n + m < 400) (hx : x2 = f (400 * x1 + n + m).toNat) (k : K none (mkM (layM iv x1 n (m + 1) f x3))) : Z G mX12_puts (d + 1) 0 0 0 [vr (some 0), vi x1, vi x2, vi x3] [] (mkM (layM iv x1 n m f x3)) K := by
  have e := layM_7 (iv := iv) (s := x1) (n := n) (m := m) (w := x3) (f := f)
  apply M_puts h (by rw [e]; omega)
  rw [e, layM_s ⟨by omega, by omega, by omega⟩ hx]
  exact k
set_option maxRecDepth 20000 in
theorem sX12_lead_0 {G : ZG} {d : Nat} {iv : Nat → Nat → Int} {K : Option AV → AH → Prop} {x1 x2 : Int} (h : (¬ (0 ≤ x1 ∧ x1 ≤ 1) → (K (some (vi 0)) (mkM (iu iv 0 0 1)))) ∧ (0 ≤ x1 ∧ x1 ≤ 1 → ((x2 < 1 → (K (some (vi 0)) (mkM (iu iv 0 0 1)))) ∧ (1 ≤ x2 → ((x2 ≤ 100 → ((0 ≤ x1 ∧ x1 < (2 : Nat)) ∧ ((-2147483648 ≤ ((iv 7 ((x1).toNat)) + x2) ∧ ((iv 7 ((x1).toNat)) + x2) ≤ 2147483647) ∧ ((((iv 7 ((x1).toNat)) + x2) ≤ 400 → ((0 ≤ x1 ∧ x1 < (2 : Nat)) ∧ (((iv 10 ((x1).toNat)) = (-1) → (Z G mX12_lead (d + 2) 0 0 63 [vr (some 0), vi x1, vi x2, vi 0] [] (mkM iv) K)) ∧ (¬ (iv 10 ((x1).toNat)) = (-1) → (K (some (vi 0)) (mkM (iu iv 0 0 7))))))) ∧ (400 < ((iv 7 ((x1).toNat)) + x2) → (K (some (vi 0)) (mkM (iu iv 0 0 4)))))))) ∧ (100 < x2 → (K (some (vi 0)) (mkM (iu iv 0 0 1))))))))) : Z G mX12_lead (d + 2) 0 0 0 [vr (some 0), vi x1, vi x2, vu] [] (mkM iv) K := (Z_iload_n (dX12_lead 0) rfl (Z_cS (As := [vi x1]) (S := []) (dX12_lead 1) lk_X12_238 rfl (Nat.le_of_ble_eq_true rfl) (Nat.le_of_ble_eq_true rfl) (M_isSide  ((Z_if_eq (dX12_lead 2) rfl (fun c1 => (Z_aload_n (dX12_lead 9) rfl (Z_iconst (dX12_lead 10) ⟨by decide, by decide⟩ (Z_cVM (As := [vi 1]) (S := []) (dX12_lead 11) lk_X12_205 sM0 (by decide) rfl rfl (Nat.le_of_ble_eq_true rfl) (Nat.le_of_ble_eq_true rfl) (M_isF (by decide) ((Z_zreturn (dX12_lead 12) rfl (Or.inl rfl) (h.1 (b01_0.mp c1))))))))) (fun c2 => (Z_iload_n (dX12_lead 3) rfl (Z_iconst (dX12_lead 4) ⟨by decide, by decide⟩ (Z_icmp_lt (dX12_lead 5) rfl (fun c3 => (Z_aload_n (dX12_lead 9) rfl (Z_iconst (dX12_lead 10) ⟨by decide, by decide⟩ (Z_cVM (As := [vi 1]) (S := []) (dX12_lead 11) lk_X12_205 sM0 (by decide) rfl rfl (Nat.le_of_ble_eq_true rfl) (Nat.le_of_ble_eq_true rfl) (M_isF (by decide) ((Z_zreturn (dX12_lead 12) rfl (Or.inl rfl) ((h.2 (b01_n.mp c2)).1 c3)))))))) (fun c4 => (Z_iload_n (dX12_lead 6) rfl (Z_bipush (dX12_lead 7) ⟨by decide, by decide⟩ (Z_icmp_le (dX12_lead 8) rfl (fun c5 => (Z_aload_n (dX12_lead 13) rfl (Z_gRM (r := (some 7)) (dX12_lead 14) lk_X12_39 sM0 rfl rfl (Z_iload_n (dX12_lead 15) rfl (Z_ilM (x := (iv 7 ((x1).toNat))) (dX12_lead 16) sM7 (((h.2 (b01_n.mp c2)).2 c4).1 c5).1 rfl (Z_iload_n (dX12_lead 17) rfl (Z_iadd (dX12_lead 18) (((h.2 (b01_n.mp c2)).2 c4).1 c5).2.1 (Z_sipush (dX12_lead 19) ⟨by decide, by decide⟩ (Z_icmp_le (dX12_lead 20) rfl (fun c7 => (Z_aload_n (dX12_lead 25) rfl (Z_gRM (r := (some 10)) (dX12_lead 26) lk_X12_48 sM0 rfl rfl (Z_iload_n (dX12_lead 27) rfl (Z_ilM (x := (iv 10 ((x1).toNat))) (dX12_lead 28) sM10 ((((h.2 (b01_n.mp c2)).2 c4).1 c5).2.2.1 c7).1 rfl (Z_iconst (dX12_lead 29) ⟨by decide, by decide⟩ (Z_icmp_eq (dX12_lead 30) rfl (fun c9 => (Z_iconst (dX12_lead 35) ⟨by decide, by decide⟩ (Z_istore_n (dX12_lead 36) (Nat.le_of_ble_eq_true rfl) rfl (((((h.2 (b01_n.mp c2)).2 c4).1 c5).2.2.1 c7).2.1 c9)))) (fun c10 => (Z_aload_n (dX12_lead 31) rfl (Z_bipush (dX12_lead 32) ⟨by decide, by decide⟩ (Z_cVM (As := [vi 7]) (S := []) (dX12_lead 33) lk_X12_205 sM0 (by decide) rfl rfl (Nat.le_of_ble_eq_true rfl) (Nat.le_of_ble_eq_true rfl) (M_isF (by decide) ((Z_zreturn (dX12_lead 34) rfl (Or.inl rfl) (((((h.2 (b01_n.mp c2)).2 c4).1 c5).2.2.1 c7).2.2 c10))))))))))))))) (fun c8 => (Z_aload_n (dX12_lead 21) rfl (Z_iconst (dX12_lead 22) ⟨by decide, by decide⟩ (Z_cVM (As := [vi 4]) (S := []) (dX12_lead 23) lk_X12_205 sM0 (by decide) rfl rfl (Nat.le_of_ble_eq_true rfl) (Nat.le_of_ble_eq_true rfl) (M_isF (by decide) ((Z_zreturn (dX12_lead 24) rfl (Or.inl rfl) ((((h.2 (b01_n.mp c2)).2 c4).1 c5).2.2.2 c8))))))))))))))))) (fun c6 => (Z_aload_n (dX12_lead 9) rfl (Z_iconst (dX12_lead 10) ⟨by decide, by decide⟩ (Z_cVM (As := [vi 1]) (S := []) (dX12_lead 11) lk_X12_205 sM0 (by decide) rfl rfl (Nat.le_of_ble_eq_true rfl) (Nat.le_of_ble_eq_true rfl) (M_isF (by decide) ((Z_zreturn (dX12_lead 12) rfl (Or.inl rfl) (((h.2 (b01_n.mp c2)).2 c4).2 c6)))))))))))))))))))))
set_option maxRecDepth 20000 in
theorem sX12_lead_63 {G : ZG} {d : Nat} {iv : Nat → Nat → Int} {K : Option AV → AH → Prop} {x1 x2 x3 : Int} (h : (x2 ≤ x3 → (K (some (vi 1)) (mkM (iu iv 0 0 0)))) ∧ (x3 < x2 → (Z G mX12_puts (d + 1) 0 0 0 [vr (some 0), vi x1, vi 0, vi (-1)] [] (mkM iv) (fun r A1 => Z G mX12_lead (d + 2) 0 0 75 [vr (some 0), vi x1, vi x2, vi x3] (r.toList ++ []) A1 K)))) : Z G mX12_lead (d + 2) 0 0 63 [vr (some 0), vi x1, vi x2, vi x3] [] (mkM iv) K := (Z_iload_n (dX12_lead 37) rfl (Z_iload_n (dX12_lead 38) rfl (Z_icmp_ge (dX12_lead 39) rfl (fun c1 => (Z_aload_n (dX12_lead 47) rfl (Z_iconst (dX12_lead 48) ⟨by decide, by decide⟩ (Z_cVM (As := [vi 0]) (S := []) (dX12_lead 49) lk_X12_205 sM0 (by decide) rfl rfl (Nat.le_of_ble_eq_true rfl) (Nat.le_of_ble_eq_true rfl) (M_isT  ((Z_zreturn (dX12_lead 50) rfl (Or.inr rfl) (h.1 c1)))))))) (fun c2 => (Z_aload_n (dX12_lead 40) rfl (Z_iload_n (dX12_lead 41) rfl (Z_iconst (dX12_lead 42) ⟨by decide, by decide⟩ (Z_iconst (dX12_lead 43) ⟨by decide, by decide⟩ (Z_cVM (As := [vi x1, vi 0, vi (-1)]) (S := []) (dX12_lead 44) lk_X12_248 sM0 (by decide) rfl rfl (Nat.le_of_ble_eq_true rfl) (Nat.le_of_ble_eq_true rfl) (h.2 c2))))))))))
set_option maxRecDepth 20000 in
theorem sX12_lead_75 {G : ZG} {d : Nat} {iv : Nat → Nat → Int} {K : Option AV → AH → Prop} {x1 x2 x3 : Int} (h : (-2147483648 ≤ (x3 + 1) ∧ (x3 + 1) ≤ 2147483647) ∧ (Z G mX12_lead (d + 2) 0 0 63 [vr (some 0), vi x1, vi x2, vi (x3 + 1)] [] (mkM iv) K)) : Z G mX12_lead (d + 2) 0 0 75 [vr (some 0), vi x1, vi x2, vi x3] [] (mkM iv) K := (Z_iinc (dX12_lead 45) rfl (Nat.le_of_ble_eq_true rfl) h.1 rfl (Z_goto (dX12_lead 46) rfl h.2))
theorem M_lead {G : ZG} {d : Nat} {iv : Nat → Nat → Int} {K : Option AV → AH → Prop} {x1 x2 : Int} (hp : 0 ≤ x1 → x1 ≤ 1 → 0 ≤ iv 7 x1.toNat ∧ iv 7 x1.toNat ≤ 400) (k1 : ¬ ((0 ≤ x1 ∧ x1 ≤ 1) ∧ 1 ≤ x2 ∧ x2 ≤ 100) → K (some (vi 0)) (mkM (iu iv 0 0 1))) (k4 : ((0 ≤ x1 ∧ x1 ≤ 1) ∧ 1 ≤ x2 ∧ x2 ≤ 100) → 400 < iv 7 x1.toNat + x2 → K (some (vi 0)) (mkM (iu iv 0 0 4))) (k7 : ((0 ≤ x1 ∧ x1 ≤ 1) ∧ 1 ≤ x2 ∧ x2 ≤ 100) → iv 7 x1.toNat + x2 ≤ 400 → ¬ iv 10 x1.toNat = -1 → K (some (vi 0)) (mkM (iu iv 0 0 7))) (k0 : ((0 ≤ x1 ∧ x1 ≤ 1) ∧ 1 ≤ x2 ∧ x2 ≤ 100) → iv 7 x1.toNat + x2 ≤ 400 → iv 10 x1.toNat = -1 → K (some (vi 1)) (mkM (iu (layM iv x1 (iv 7 x1.toNat) x2 (fun _ => 0) (-1)) 0 0 0))) :
    Z G mX12_lead (d + 2) 0 0 0 [vr (some 0), vi x1, vi x2, vu] [] (mkM iv) K := by
  by_cases g : (0 ≤ x1 ∧ x1 ≤ 1) ∧ 1 ≤ x2 ∧ x2 ≤ 100
  · have hp := hp g.1.1 g.1.2
    apply sX12_lead_0
    refine ⟨fun h1 => ?_, fun h1 => ⟨fun h2 => ?_, fun h2 => ⟨fun h3 => ⟨?_, ⟨?_, ⟨fun h4 => ⟨?_, ⟨fun h5 => ?_, fun h5 => ?_⟩⟩, fun h4 => ?_⟩⟩⟩, fun h3 => ?_⟩⟩⟩
    all_goals (try omega)
    all_goals try first | exact k4 g (by omega) | exact k7 g (by omega) (by omega)
    · have k0 := k0 g (by omega) (by omega)
      refine lp_up (P := fun k iv' => Z G mX12_lead (d + 2) 0 0 63 [vr (some 0), vi x1, vi x2, vi k] [] (mkM iv') K) x2 (fun k iv' => 0 ≤ k ∧ iv' = layM iv x1 (iv 7 x1.toNat) k (fun _ => 0) (-1)) ?_ ?_ 0 iv (by omega) ⟨by omega, (layM_0 rfl).symm⟩
      · rintro iv' ⟨-, rfl⟩
        apply sX12_lead_63
        refine ⟨fun h1 => ?_, fun h1 => ?_⟩
        all_goals (try omega)
      · rintro k iv' hk ⟨h0, rfl⟩ ih
        apply sX12_lead_63
        refine ⟨fun h => by omega, fun h => M_putsL g.1 (by omega) rfl ?_⟩
        apply sX12_lead_75
        exact ⟨by omega, ih _ ⟨by omega, rfl⟩⟩
  · have k1 := k1 g
    apply sX12_lead_0
    refine ⟨fun h1 => ?_, fun h1 => ⟨fun h2 => ?_, fun h2 => ⟨fun h3 => ⟨?_, ⟨?_, ⟨fun h4 => ⟨?_, ⟨fun h5 => ?_, fun h5 => ?_⟩⟩, fun h4 => ?_⟩⟩⟩, fun h3 => ?_⟩⟩⟩
    all_goals (try omega)
set_option maxRecDepth 20000 in
theorem sX12_lay_0 {G : ZG} {d : Nat} {iv : Nat → Nat → Int} {K : Option AV → AH → Prop} {x1 x2 : Int} (h : (¬ (0 ≤ x1 ∧ x1 ≤ 1) → (K (some (vi 0)) (mkM (iu iv 0 0 1)))) ∧ (0 ≤ x1 ∧ x1 ≤ 1 → ((0 ≤ x2 ∧ x2 < (iv 0 4) → ((0 ≤ x1 ∧ x1 < (2 : Nat)) ∧ ((0 ≤ x2 ∧ x2 < (10 : Nat)) ∧ ((-2147483648 ≤ ((iv 7 ((x1).toNat)) + (iv 4 ((x2).toNat))) ∧ ((iv 7 ((x1).toNat)) + (iv 4 ((x2).toNat))) ≤ 2147483647) ∧ ((((iv 7 ((x1).toNat)) + (iv 4 ((x2).toNat))) ≤ 400 → ((0 ≤ x1 ∧ x1 < (2 : Nat)) ∧ (((iv 10 ((x1).toNat)) = (-1) → (Z G mX12_lay (d + 2) 0 0 65 [vr (some 0), vi x1, vi x2, vi 0] [] (mkM iv) K)) ∧ (¬ (iv 10 ((x1).toNat)) = (-1) → (K (some (vi 0)) (mkM (iu iv 0 0 7))))))) ∧ (400 < ((iv 7 ((x1).toNat)) + (iv 4 ((x2).toNat))) → (K (some (vi 0)) (mkM (iu iv 0 0 4))))))))) ∧ (¬ (0 ≤ x2 ∧ x2 < (iv 0 4)) → (K (some (vi 0)) (mkM (iu iv 0 0 1))))))) : Z G mX12_lay (d + 2) 0 0 0 [vr (some 0), vi x1, vi x2, vu] [] (mkM iv) K := (Z_iload_n (dX12_lay 0) rfl (Z_cS (As := [vi x1]) (S := []) (dX12_lay 1) lk_X12_238 rfl (Nat.le_of_ble_eq_true rfl) (Nat.le_of_ble_eq_true rfl) (M_isSide  ((Z_if_eq (dX12_lay 2) rfl (fun c1 => (Z_aload_n (dX12_lay 7) rfl (Z_iconst (dX12_lay 8) ⟨by decide, by decide⟩ (Z_cVM (As := [vi 1]) (S := []) (dX12_lay 9) lk_X12_205 sM0 (by decide) rfl rfl (Nat.le_of_ble_eq_true rfl) (Nat.le_of_ble_eq_true rfl) (M_isF (by decide) ((Z_zreturn (dX12_lay 10) rfl (Or.inl rfl) (h.1 (b01_0.mp c1))))))))) (fun c2 => (Z_aload_n (dX12_lay 3) rfl (Z_iload_n (dX12_lay 4) rfl (Z_cVM (As := [vi x2]) (S := []) (dX12_lay 5) lk_X12_230 sM0 (by decide) rfl rfl (Nat.le_of_ble_eq_true rfl) (Nat.le_of_ble_eq_true rfl) (M_isSong  ((Z_if_ne (dX12_lay 6) rfl (fun c3 => (Z_aload_n (dX12_lay 11) rfl (Z_gRM (r := (some 7)) (dX12_lay 12) lk_X12_39 sM0 rfl rfl (Z_iload_n (dX12_lay 13) rfl (Z_ilM (x := (iv 7 ((x1).toNat))) (dX12_lay 14) sM7 ((h.2 (b01_n.mp c2)).1 (b01_n.mp c3)).1 rfl (Z_aload_n (dX12_lay 15) rfl (Z_gRM (r := (some 4)) (dX12_lay 16) lk_X12_30 sM0 rfl rfl (Z_iload_n (dX12_lay 17) rfl (Z_ilM (x := (iv 4 ((x2).toNat))) (dX12_lay 18) sM4 ((h.2 (b01_n.mp c2)).1 (b01_n.mp c3)).2.1 rfl (Z_iadd (dX12_lay 19) ((h.2 (b01_n.mp c2)).1 (b01_n.mp c3)).2.2.1 (Z_sipush (dX12_lay 20) ⟨by decide, by decide⟩ (Z_icmp_le (dX12_lay 21) rfl (fun c5 => (Z_aload_n (dX12_lay 26) rfl (Z_gRM (r := (some 10)) (dX12_lay 27) lk_X12_48 sM0 rfl rfl (Z_iload_n (dX12_lay 28) rfl (Z_ilM (x := (iv 10 ((x1).toNat))) (dX12_lay 29) sM10 (((h.2 (b01_n.mp c2)).1 (b01_n.mp c3)).2.2.2.1 c5).1 rfl (Z_iconst (dX12_lay 30) ⟨by decide, by decide⟩ (Z_icmp_eq (dX12_lay 31) rfl (fun c7 => (Z_iconst (dX12_lay 36) ⟨by decide, by decide⟩ (Z_istore_n (dX12_lay 37) (Nat.le_of_ble_eq_true rfl) rfl ((((h.2 (b01_n.mp c2)).1 (b01_n.mp c3)).2.2.2.1 c5).2.1 c7)))) (fun c8 => (Z_aload_n (dX12_lay 32) rfl (Z_bipush (dX12_lay 33) ⟨by decide, by decide⟩ (Z_cVM (As := [vi 7]) (S := []) (dX12_lay 34) lk_X12_205 sM0 (by decide) rfl rfl (Nat.le_of_ble_eq_true rfl) (Nat.le_of_ble_eq_true rfl) (M_isF (by decide) ((Z_zreturn (dX12_lay 35) rfl (Or.inl rfl) ((((h.2 (b01_n.mp c2)).1 (b01_n.mp c3)).2.2.2.1 c5).2.2 c8))))))))))))))) (fun c6 => (Z_aload_n (dX12_lay 22) rfl (Z_iconst (dX12_lay 23) ⟨by decide, by decide⟩ (Z_cVM (As := [vi 4]) (S := []) (dX12_lay 24) lk_X12_205 sM0 (by decide) rfl rfl (Nat.le_of_ble_eq_true rfl) (Nat.le_of_ble_eq_true rfl) (M_isF (by decide) ((Z_zreturn (dX12_lay 25) rfl (Or.inl rfl) (((h.2 (b01_n.mp c2)).1 (b01_n.mp c3)).2.2.2.2 c6)))))))))))))))))))) (fun c4 => (Z_aload_n (dX12_lay 7) rfl (Z_iconst (dX12_lay 8) ⟨by decide, by decide⟩ (Z_cVM (As := [vi 1]) (S := []) (dX12_lay 9) lk_X12_205 sM0 (by decide) rfl rfl (Nat.le_of_ble_eq_true rfl) (Nat.le_of_ble_eq_true rfl) (M_isF (by decide) ((Z_zreturn (dX12_lay 10) rfl (Or.inl rfl) ((h.2 (b01_n.mp c2)).2 (b01_0.mp c4)))))))))))))))))))))
set_option maxRecDepth 20000 in
theorem sX12_lay_65 {G : ZG} {d : Nat} {iv : Nat → Nat → Int} {K : Option AV → AH → Prop} {x1 x2 x3 : Int} (h : (0 ≤ x2 ∧ x2 < (10 : Nat)) ∧ (((iv 4 ((x2).toNat)) ≤ x3 → (K (some (vi 1)) (mkM (iu iv 0 0 0)))) ∧ (x3 < (iv 4 ((x2).toNat)) → ((-2147483648 ≤ (60 * x2) ∧ (60 * x2) ≤ 2147483647) ∧ ((-2147483648 ≤ ((60 * x2) + x3) ∧ ((60 * x2) + x3) ≤ 2147483647) ∧ ((0 ≤ ((60 * x2) + x3) ∧ ((60 * x2) + x3) < (600 : Nat)) ∧ (Z G mX12_puts (d + 1) 0 0 0 [vr (some 0), vi x1, vi (iv 6 (((60 * x2) + x3).toNat)), vi x2] [] (mkM iv) (fun r A1 => Z G mX12_lay (d + 2) 0 0 92 [vr (some 0), vi x1, vi x2, vi x3] (r.toList ++ []) A1 K)))))))) : Z G mX12_lay (d + 2) 0 0 65 [vr (some 0), vi x1, vi x2, vi x3] [] (mkM iv) K := (Z_iload_n (dX12_lay 38) rfl (Z_aload_n (dX12_lay 39) rfl (Z_gRM (r := (some 4)) (dX12_lay 40) lk_X12_30 sM0 rfl rfl (Z_iload_n (dX12_lay 41) rfl (Z_ilM (x := (iv 4 ((x2).toNat))) (dX12_lay 42) sM4 h.1 rfl (Z_icmp_ge (dX12_lay 43) rfl (fun c1 => (Z_aload_n (dX12_lay 58) rfl (Z_iconst (dX12_lay 59) ⟨by decide, by decide⟩ (Z_cVM (As := [vi 0]) (S := []) (dX12_lay 60) lk_X12_205 sM0 (by decide) rfl rfl (Nat.le_of_ble_eq_true rfl) (Nat.le_of_ble_eq_true rfl) (M_isT  ((Z_zreturn (dX12_lay 61) rfl (Or.inr rfl) (h.2.1 c1)))))))) (fun c2 => (Z_aload_n (dX12_lay 44) rfl (Z_iload_n (dX12_lay 45) rfl (Z_aload_n (dX12_lay 46) rfl (Z_gRM (r := (some 6)) (dX12_lay 47) lk_X12_36 sM0 rfl rfl (Z_bipush (dX12_lay 48) ⟨by decide, by decide⟩ (Z_iload_n (dX12_lay 49) rfl (Z_imul (dX12_lay 50) (h.2.2 c2).1 (Z_iload_n (dX12_lay 51) rfl (Z_iadd (dX12_lay 52) (h.2.2 c2).2.1 (Z_ilM (x := (iv 6 (((60 * x2) + x3).toNat))) (dX12_lay 53) sM6 (h.2.2 c2).2.2.1 rfl (Z_iload_n (dX12_lay 54) rfl (Z_cVM (As := [vi x1, vi (iv 6 (((60 * x2) + x3).toNat)), vi x2]) (S := []) (dX12_lay 55) lk_X12_248 sM0 (by decide) rfl rfl (Nat.le_of_ble_eq_true rfl) (Nat.le_of_ble_eq_true rfl) (h.2.2 c2).2.2.2)))))))))))))))))))
set_option maxRecDepth 20000 in
theorem sX12_lay_92 {G : ZG} {d : Nat} {iv : Nat → Nat → Int} {K : Option AV → AH → Prop} {x1 x2 x3 : Int} (h : (-2147483648 ≤ (x3 + 1) ∧ (x3 + 1) ≤ 2147483647) ∧ (Z G mX12_lay (d + 2) 0 0 65 [vr (some 0), vi x1, vi x2, vi (x3 + 1)] [] (mkM iv) K)) : Z G mX12_lay (d + 2) 0 0 92 [vr (some 0), vi x1, vi x2, vi x3] [] (mkM iv) K := (Z_iinc (dX12_lay 56) rfl (Nat.le_of_ble_eq_true rfl) h.1 rfl (Z_goto (dX12_lay 57) rfl h.2))
theorem M_lay {G : ZG} {d : Nat} {iv : Nat → Nat → Int} {K : Option AV → AH → Prop} {x1 x2 : Int} (hp : 0 ≤ x1 → x1 ≤ 1 → 0 ≤ iv 7 x1.toNat ∧ iv 7 x1.toNat ≤ 400) (hs : 0 ≤ iv 0 4 ∧ iv 0 4 ≤ 10) (hl : 0 ≤ x2 → x2 < iv 0 4 → 1 ≤ iv 4 x2.toNat ∧ iv 4 x2.toNat ≤ 60) (k1 : ¬ ((0 ≤ x1 ∧ x1 ≤ 1) ∧ 0 ≤ x2 ∧ x2 < iv 0 4) → K (some (vi 0)) (mkM (iu iv 0 0 1))) (k4 : ((0 ≤ x1 ∧ x1 ≤ 1) ∧ 0 ≤ x2 ∧ x2 < iv 0 4) → 400 < iv 7 x1.toNat + iv 4 x2.toNat → K (some (vi 0)) (mkM (iu iv 0 0 4))) (k7 : ((0 ≤ x1 ∧ x1 ≤ 1) ∧ 0 ≤ x2 ∧ x2 < iv 0 4) → iv 7 x1.toNat + iv 4 x2.toNat ≤ 400 → ¬ iv 10 x1.toNat = -1 → K (some (vi 0)) (mkM (iu iv 0 0 7))) (k0 : ((0 ≤ x1 ∧ x1 ≤ 1) ∧ 0 ≤ x2 ∧ x2 < iv 0 4) → iv 7 x1.toNat + iv 4 x2.toNat ≤ 400 → iv 10 x1.toNat = -1 → K (some (vi 1)) (mkM (iu (layM iv x1 (iv 7 x1.toNat) (iv 4 x2.toNat) (fun j => iv 6 (60 * x2 + (j - (400 * x1 + iv 7 x1.toNat))).toNat) x2) 0 0 0))) :
    Z G mX12_lay (d + 2) 0 0 0 [vr (some 0), vi x1, vi x2, vu] [] (mkM iv) K := by
  by_cases g : (0 ≤ x1 ∧ x1 ≤ 1) ∧ 0 ≤ x2 ∧ x2 < iv 0 4
  · have hp := hp g.1.1 g.1.2
    have hl := hl g.2.1 g.2.2
    apply sX12_lay_0
    refine ⟨fun h1 => ?_, fun h1 => ⟨fun h2 => ⟨?_, ⟨?_, ⟨?_, ⟨fun h3 => ⟨?_, ⟨fun h4 => ?_, fun h4 => ?_⟩⟩, fun h3 => ?_⟩⟩⟩⟩, fun h2 => ?_⟩⟩
    all_goals (try omega)
    all_goals try first | exact k4 g (by omega) | exact k7 g (by omega) (by omega)
    · have k0 := k0 g (by omega) (by omega)
      refine lp_up (P := fun k iv' => Z G mX12_lay (d + 2) 0 0 65 [vr (some 0), vi x1, vi x2, vi k] [] (mkM iv') K) (iv 4 x2.toNat) (fun k iv' => 0 ≤ k ∧ iv' = layM iv x1 (iv 7 x1.toNat) k (fun j => iv 6 (60 * x2 + (j - (400 * x1 + iv 7 x1.toNat))).toNat) x2) ?_ ?_ 0 iv (by omega) ⟨by omega, (layM_0 rfl).symm⟩
      · rintro iv' ⟨-, rfl⟩
        apply sX12_lay_65
        rw [layM_o (i := 4) (by decide) (by decide) (by decide)]
        exact ⟨by omega, fun _ => k0, fun h => by omega⟩
      · rintro k iv' hk ⟨h0, rfl⟩ ih
        apply sX12_lay_65
        rw [layM_o (i := 4) (by decide) (by decide) (by decide), layM_o (i := 6) (by decide) (by decide) (by decide)]
        refine ⟨by omega, fun h => by omega, fun h => ⟨by omega, by omega, by omega, M_putsL g.1 (by omega) ?_ ?_⟩⟩
        · congr 2; omega
        · apply sX12_lay_92
          exact ⟨by omega, ih _ ⟨by omega, rfl⟩⟩
  · have k1 := k1 g
    apply sX12_lay_0
    refine ⟨fun h1 => ?_, fun h1 => ⟨fun h2 => ⟨?_, ⟨?_, ⟨?_, ⟨fun h3 => ⟨?_, ⟨fun h4 => ?_, fun h4 => ?_⟩⟩, fun h3 => ?_⟩⟩⟩⟩, fun h2 => ?_⟩⟩
    all_goals (try omega)
set_option maxRecDepth 20000 in
theorem sX12_parts_0 {G : ZG} {d : Nat} {iv : Nat → Nat → Int} {K : Option AV → AH → Prop} {x1 : Int} (h : (¬ (0 ≤ x1 ∧ x1 ≤ 1) → (K (some (vi (-1))) (mkM (iu iv 0 0 1)))) ∧ (0 ≤ x1 ∧ x1 ≤ 1 → ((0 ≤ x1 ∧ x1 < (2 : Nat)) ∧ (K (some (vi (iv 7 ((x1).toNat)))) (mkM (iu iv 0 0 0)))))) : Z G mX12_parts (d + 1) 0 0 0 [vr (some 0), vi x1] [] (mkM iv) K := (Z_iload_n (dX12_parts 0) rfl (Z_cS (As := [vi x1]) (S := []) (dX12_parts 1) lk_X12_238 rfl (Nat.le_of_ble_eq_true rfl) (Nat.le_of_ble_eq_true rfl) (M_isSide  ((Z_if_eq (dX12_parts 2) rfl (fun c1 => (Z_aload_n (dX12_parts 10) rfl (Z_iconst (dX12_parts 11) ⟨by decide, by decide⟩ (Z_cVM (As := [vi 1]) (S := []) (dX12_parts 12) lk_X12_221 sM0 (by decide) rfl rfl (Nat.le_of_ble_eq_true rfl) (Nat.le_of_ble_eq_true rfl) (M_refuse  ((Z_ireturn (dX12_parts 13) rfl (h.1 (b01_0.mp c1))))))))) (fun c2 => (Z_aload_n (dX12_parts 3) rfl (Z_aload_n (dX12_parts 4) rfl (Z_gRM (r := (some 7)) (dX12_parts 5) lk_X12_39 sM0 rfl rfl (Z_iload_n (dX12_parts 6) rfl (Z_ilM (x := (iv 7 ((x1).toNat))) (dX12_parts 7) sM7 (h.2 (b01_n.mp c2)).1 rfl (Z_cVM (As := [vi (iv 7 ((x1).toNat))]) (S := []) (dX12_parts 8) lk_X12_227 sM0 (by decide) rfl rfl (Nat.le_of_ble_eq_true rfl) (Nat.le_of_ble_eq_true rfl) (M_gives  ((Z_goto (dX12_parts 9) rfl (Z_ireturn (dX12_parts 13) rfl (h.2 (b01_n.mp c2)).2))))))))))))))))
set_option maxRecDepth 20000 in
theorem sX12_isPart_0 {G : ZG} {d : Nat} {iv : Nat → Nat → Int} {K : Option AV → AH → Prop} {x1 x2 : Int} (h : (¬ (0 ≤ x1 ∧ x1 ≤ 1) → (K (some (vi 0)) (mkM iv))) ∧ (0 ≤ x1 ∧ x1 ≤ 1 → ((x2 < 0 → (K (some (vi 0)) (mkM iv))) ∧ (0 ≤ x2 → ((0 ≤ x1 ∧ x1 < (2 : Nat)) ∧ (((iv 7 ((x1).toNat)) ≤ x2 → (K (some (vi 0)) (mkM iv))) ∧ (x2 < (iv 7 ((x1).toNat)) → (K (some (vi 1)) (mkM iv))))))))) : Z G mX12_isPart (d + 1) 0 0 0 [vr (some 0), vi x1, vi x2] [] (mkM iv) K := (Z_iload_n (dX12_isPart 0) rfl (Z_cS (As := [vi x1]) (S := []) (dX12_isPart 1) lk_X12_238 rfl (Nat.le_of_ble_eq_true rfl) (Nat.le_of_ble_eq_true rfl) (M_isSide  ((Z_if_eq (dX12_isPart 2) rfl (fun c1 => (Z_iconst (dX12_isPart 13) ⟨by decide, by decide⟩ (Z_zreturn (dX12_isPart 14) rfl (Or.inl rfl) (h.1 (b01_0.mp c1))))) (fun c2 => (Z_iload_n (dX12_isPart 3) rfl (Z_if_lt (dX12_isPart 4) rfl (fun c3 => (Z_iconst (dX12_isPart 13) ⟨by decide, by decide⟩ (Z_zreturn (dX12_isPart 14) rfl (Or.inl rfl) ((h.2 (b01_n.mp c2)).1 c3)))) (fun c4 => (Z_iload_n (dX12_isPart 5) rfl (Z_aload_n (dX12_isPart 6) rfl (Z_gRM (r := (some 7)) (dX12_isPart 7) lk_X12_39 sM0 rfl rfl (Z_iload_n (dX12_isPart 8) rfl (Z_ilM (x := (iv 7 ((x1).toNat))) (dX12_isPart 9) sM7 ((h.2 (b01_n.mp c2)).2 c4).1 rfl (Z_icmp_ge (dX12_isPart 10) rfl (fun c5 => (Z_iconst (dX12_isPart 13) ⟨by decide, by decide⟩ (Z_zreturn (dX12_isPart 14) rfl (Or.inl rfl) (((h.2 (b01_n.mp c2)).2 c4).2.1 c5)))) (fun c6 => (Z_iconst (dX12_isPart 11) ⟨by decide, by decide⟩ (Z_goto (dX12_isPart 12) rfl (Z_zreturn (dX12_isPart 14) rfl (Or.inr rfl) (((h.2 (b01_n.mp c2)).2 c4).2.2 c6))))))))))))))))))))
theorem M_isPart {G : ZG} {d : Nat} {iv : Nat → Nat → Int} {K : Option AV → AH → Prop} {x1 x2 : Int} (k : K (some (vi (b01 ((0 ≤ x1 ∧ x1 ≤ 1) ∧ 0 ≤ x2 ∧ x2 < iv 7 x1.toNat)))) (mkM iv)) : Z G mX12_isPart (d + 1) 0 0 0 [vr (some 0), vi x1, vi x2] [] (mkM iv) K := by
  apply sX12_isPart_0
  refine ⟨fun h1 => ?_, fun h1 => ⟨fun h2 => ?_, fun h2 => ⟨?_, ⟨fun h3 => ?_, fun h3 => ?_⟩⟩⟩⟩
  all_goals (try omega)
  all_goals first | exact K_i (b01_t (by omega)) k | exact K_i (b01_f (by omega)) k
set_option maxRecDepth 20000 in
theorem sX12_level_0 {G : ZG} {d : Nat} {iv : Nat → Nat → Int} {K : Option AV → AH → Prop} {x1 x2 : Int} (h : (¬ ((0 ≤ x1 ∧ x1 ≤ 1) ∧ 0 ≤ x2 ∧ x2 < (iv 7 (x1).toNat)) → (K (some (vi (-1))) (mkM (iu iv 0 0 1)))) ∧ ((0 ≤ x1 ∧ x1 ≤ 1) ∧ 0 ≤ x2 ∧ x2 < (iv 7 (x1).toNat) → ((0 ≤ x1 ∧ x1 ≤ 1 ∧ -1000 ≤ x2 ∧ x2 ≤ 1000) ∧ ((0 ≤ (400 * x1 + x2) ∧ (400 * x1 + x2) < (800 : Nat)) ∧ (K (some (vi (iv 8 ((400 * x1 + x2).toNat)))) (mkM (iu iv 0 0 0))))))) : Z G mX12_level (d + 2) 0 0 0 [vr (some 0), vi x1, vi x2] [] (mkM iv) K := (Z_aload_n (dX12_level 0) rfl (Z_iload_n (dX12_level 1) rfl (Z_iload_n (dX12_level 2) rfl (Z_cVM (As := [vi x1, vi x2]) (S := []) (dX12_level 3) lk_X12_252 sM0 (by decide) rfl rfl (Nat.le_of_ble_eq_true rfl) (Nat.le_of_ble_eq_true rfl) (M_isPart  ((Z_if_eq (dX12_level 4) rfl (fun c1 => (Z_aload_n (dX12_level 14) rfl (Z_iconst (dX12_level 15) ⟨by decide, by decide⟩ (Z_cVM (As := [vi 1]) (S := []) (dX12_level 16) lk_X12_221 sM0 (by decide) rfl rfl (Nat.le_of_ble_eq_true rfl) (Nat.le_of_ble_eq_true rfl) (M_refuse  ((Z_ireturn (dX12_level 17) rfl (h.1 (b01_0.mp c1))))))))) (fun c2 => (Z_aload_n (dX12_level 5) rfl (Z_aload_n (dX12_level 6) rfl (Z_gRM (r := (some 8)) (dX12_level 7) lk_X12_42 sM0 rfl rfl (Z_iload_n (dX12_level 8) rfl (Z_iload_n (dX12_level 9) rfl (Z_cS (As := [vi x1, vi x2]) (S := [vr (some 8), vr (some 0)]) (dX12_level 10) lk_X12_245 rfl (Nat.le_of_ble_eq_true rfl) (Nat.le_of_ble_eq_true rfl) (M_at  (h.2 (b01_n.mp c2)).1 ((Z_ilM (x := (iv 8 ((400 * x1 + x2).toNat))) (dX12_level 11) sM8 (h.2 (b01_n.mp c2)).2.1 rfl (Z_cVM (As := [vi (iv 8 ((400 * x1 + x2).toNat))]) (S := []) (dX12_level 12) lk_X12_227 sM0 (by decide) rfl rfl (Nat.le_of_ble_eq_true rfl) (Nat.le_of_ble_eq_true rfl) (M_gives  ((Z_goto (dX12_level 13) rfl (Z_ireturn (dX12_level 17) rfl (h.2 (b01_n.mp c2)).2.2))))))))))))))))))))))
set_option maxRecDepth 20000 in
theorem sX12_stuck_0 {G : ZG} {d : Nat} {iv : Nat → Nat → Int} {K : Option AV → AH → Prop} {x1 : Int} (h : Z G mX12_stuck (d + 1) 0 0 3 [vr (some 0), vi x1, vi 8] [] (mkM iv) K) : Z G mX12_stuck (d + 1) 0 0 0 [vr (some 0), vi x1, vu] [] (mkM iv) K := (Z_bipush (dX12_stuck 0) ⟨by decide, by decide⟩ (Z_istore_n (dX12_stuck 1) (Nat.le_of_ble_eq_true rfl) rfl h))
set_option maxRecDepth 20000 in
theorem sX12_stuck_3 {G : ZG} {d : Nat} {iv : Nat → Nat → Int} {K : Option AV → AH → Prop} {x1 x2 : Int} (h : (0 ≤ x1 ∧ x1 < (2 : Nat)) ∧ (((iv 7 ((x1).toNat)) ≤ x2 → (K (some (vi (-1))) (mkM iv))) ∧ (x2 < (iv 7 ((x1).toNat)) → ((0 ≤ x1 ∧ x1 ≤ 1 ∧ -1000 ≤ x2 ∧ x2 ≤ 1000) ∧ ((0 ≤ (400 * x1 + x2) ∧ (400 * x1 + x2) < (800 : Nat)) ∧ ((-2147483648 ≤ (x2 - 8) ∧ (x2 - 8) ≤ 2147483647) ∧ ((0 ≤ x1 ∧ x1 ≤ 1 ∧ -1000 ≤ (x2 - 8) ∧ (x2 - 8) ≤ 1000) ∧ ((0 ≤ (400 * x1 + (x2 - 8)) ∧ (400 * x1 + (x2 - 8)) < (800 : Nat)) ∧ ((-2147483648 ≤ ((iv 8 ((400 * x1 + x2).toNat)) + (iv 8 ((400 * x1 + (x2 - 8)).toNat))) ∧ ((iv 8 ((400 * x1 + x2).toNat)) + (iv 8 ((400 * x1 + (x2 - 8)).toNat))) ≤ 2147483647) ∧ ((-2147483648 ≤ (((iv 8 ((400 * x1 + x2).toNat)) + (iv 8 ((400 * x1 + (x2 - 8)).toNat))) + (iv 0 5)) ∧ (((iv 8 ((400 * x1 + x2).toNat)) + (iv 8 ((400 * x1 + (x2 - 8)).toNat))) + (iv 0 5)) ≤ 2147483647) ∧ ((-2147483648 ≤ (8 * (iv 0 6)) ∧ (8 * (iv 0 6)) ≤ 2147483647) ∧ (((((iv 8 ((400 * x1 + x2).toNat)) + (iv 8 ((400 * x1 + (x2 - 8)).toNat))) + (iv 0 5)) ≤ (8 * (iv 0 6)) → ((-2147483648 ≤ (x2 + 1) ∧ (x2 + 1) ≤ 2147483647) ∧ (Z G mX12_stuck (d + 1) 0 0 3 [vr (some 0), vi x1, vi (x2 + 1)] [] (mkM iv) K))) ∧ ((8 * (iv 0 6)) < (((iv 8 ((400 * x1 + x2).toNat)) + (iv 8 ((400 * x1 + (x2 - 8)).toNat))) + (iv 0 5)) → (K (some (vi x2)) (mkM iv))))))))))))))) : Z G mX12_stuck (d + 1) 0 0 3 [vr (some 0), vi x1, vi x2] [] (mkM iv) K := (Z_iload_n (dX12_stuck 2) rfl (Z_aload_n (dX12_stuck 3) rfl (Z_gRM (r := (some 7)) (dX12_stuck 4) lk_X12_39 sM0 rfl rfl (Z_iload_n (dX12_stuck 5) rfl (Z_ilM (x := (iv 7 ((x1).toNat))) (dX12_stuck 6) sM7 h.1 rfl (Z_icmp_ge (dX12_stuck 7) rfl (fun c1 => (Z_iconst (dX12_stuck 35) ⟨by decide, by decide⟩ (Z_ireturn (dX12_stuck 36) rfl (h.2.1 c1)))) (fun c2 => (Z_aload_n (dX12_stuck 8) rfl (Z_gRM (r := (some 8)) (dX12_stuck 9) lk_X12_42 sM0 rfl rfl (Z_iload_n (dX12_stuck 10) rfl (Z_iload_n (dX12_stuck 11) rfl (Z_cS (As := [vi x1, vi x2]) (S := [vr (some 8)]) (dX12_stuck 12) lk_X12_245 rfl (Nat.le_of_ble_eq_true rfl) (Nat.le_of_ble_eq_true rfl) (M_at  (h.2.2 c2).1 ((Z_ilM (x := (iv 8 ((400 * x1 + x2).toNat))) (dX12_stuck 13) sM8 (h.2.2 c2).2.1 rfl (Z_aload_n (dX12_stuck 14) rfl (Z_gRM (r := (some 8)) (dX12_stuck 15) lk_X12_42 sM0 rfl rfl (Z_iload_n (dX12_stuck 16) rfl (Z_iload_n (dX12_stuck 17) rfl (Z_bipush (dX12_stuck 18) ⟨by decide, by decide⟩ (Z_isub (dX12_stuck 19) (h.2.2 c2).2.2.1 (Z_cS (As := [vi x1, vi (x2 - 8)]) (S := [vr (some 8), vi (iv 8 ((400 * x1 + x2).toNat))]) (dX12_stuck 20) lk_X12_245 rfl (Nat.le_of_ble_eq_true rfl) (Nat.le_of_ble_eq_true rfl) (M_at  (h.2.2 c2).2.2.2.1 ((Z_ilM (x := (iv 8 ((400 * x1 + (x2 - 8)).toNat))) (dX12_stuck 21) sM8 (h.2.2 c2).2.2.2.2.1 rfl (Z_iadd (dX12_stuck 22) (h.2.2 c2).2.2.2.2.2.1 (Z_aload_n (dX12_stuck 23) rfl (Z_gIM (x := (iv 0 5)) (dX12_stuck 24) lk_X12_20 sM0 (Or.inl rfl) rfl (Z_iadd (dX12_stuck 25) (h.2.2 c2).2.2.2.2.2.2.1 (Z_bipush (dX12_stuck 26) ⟨by decide, by decide⟩ (Z_aload_n (dX12_stuck 27) rfl (Z_gIM (x := (iv 0 6)) (dX12_stuck 28) lk_X12_24 sM0 (Or.inl rfl) rfl (Z_imul (dX12_stuck 29) (h.2.2 c2).2.2.2.2.2.2.2.1 (Z_icmp_le (dX12_stuck 30) rfl (fun c3 => (Z_iinc (dX12_stuck 33) rfl (Nat.le_of_ble_eq_true rfl) ((h.2.2 c2).2.2.2.2.2.2.2.2.1 c3).1 rfl (Z_goto (dX12_stuck 34) rfl ((h.2.2 c2).2.2.2.2.2.2.2.2.1 c3).2))) (fun c4 => (Z_iload_n (dX12_stuck 31) rfl (Z_ireturn (dX12_stuck 32) rfl ((h.2.2 c2).2.2.2.2.2.2.2.2.2 c4))))))))))))))))))))))))))))))))))))))
/-- what is asked of a side in the model -/
def okSide (iv : Nat → Nat → Int) (s : Int) : Prop := (0 ≤ s ∧ s ≤ 1) ∧ (0 ≤ iv 7 s.toNat ∧ iv 7 s.toNat ≤ 400) ∧ ((1 ≤ iv 0 5 ∧ iv 0 5 ≤ 20) ∧ (1 ≤ iv 0 6 ∧ iv 0 6 ≤ 20)) ∧ (∀ k : Int, 0 ≤ k → k < iv 7 s.toNat → 0 ≤ iv 8 (400 * s + k).toNat ∧ iv 8 (400 * s + k).toNat ≤ 40)
/-- where the model's side can't be cut -/
def stuckM (iv : Nat → Nat → Int) (s : Int) : Int := ffirst (fun k => 8 * iv 0 6 < iv 8 (400 * s + k).toNat + iv 8 (400 * s + (k - 8)).toNat + iv 0 5) 8 (iv 7 s.toNat - 8).toNat
theorem M_stuck {G : ZG} {d : Nat} {iv : Nat → Nat → Int} {K : Option AV → AH → Prop} {x1 : Int} (h0 : okSide iv x1) (k : K (some (vi (stuckM iv x1))) (mkM iv)) : Z G mX12_stuck (d + 1) 0 0 0 [vr (some 0), vi x1, vu] [] (mkM iv) K := by
  obtain ⟨h1, h2, h3, h4⟩ := h0
  apply sX12_stuck_0
  unfold stuckM at k
  by_cases hn : iv 7 x1.toNat ≤ 8
  · rw [show (iv 7 x1.toNat - 8).toNat = 0 by omega] at k
    apply sX12_stuck_3
    refine ⟨?_, ⟨fun h1 => ?_, fun h1 => ⟨?_, ⟨?_, ⟨?_, ⟨?_, ⟨?_, ⟨?_, ⟨?_, ⟨?_, ⟨fun h2 => ⟨?_, ?_⟩, fun h2 => ?_⟩⟩⟩⟩⟩⟩⟩⟩⟩⟩⟩
    all_goals (try omega)
    exact k
  refine lp_up (P := fun j (_ : Unit) => Z G mX12_stuck (d + 1) 0 0 3 [vr (some 0), vi x1, vi j] [] (mkM iv) K) (iv 7 x1.toNat) (fun j _ => 8 ≤ j ∧ K (some (vi (ffirst (fun k => 8 * iv 0 6 < iv 8 (400 * x1 + k).toNat + iv 8 (400 * x1 + (k - 8)).toNat + iv 0 5) j (iv 7 x1.toNat - j).toNat))) (mkM iv)) ?_ ?_ 8 () (by omega) ⟨by omega, k⟩
  · rintro - ⟨-, kk⟩
    rw [show (iv 7 x1.toNat - iv 7 x1.toNat).toNat = 0 by omega] at kk
    apply sX12_stuck_3
    refine ⟨?_, ⟨fun h1 => ?_, fun h1 => ⟨?_, ⟨?_, ⟨?_, ⟨?_, ⟨?_, ⟨?_, ⟨?_, ⟨?_, ⟨fun h2 => ⟨?_, ?_⟩, fun h2 => ?_⟩⟩⟩⟩⟩⟩⟩⟩⟩⟩⟩
    all_goals (try omega)
    exact kk
  · rintro j - hj ⟨h0, kk⟩ ih
    rw [show (iv 7 x1.toNat - j).toNat = (iv 7 x1.toNat - (j + 1)).toNat + 1 by omega] at kk
    unfold ffirst at kk
    have a1 := h4 j (by omega) (by omega)
    have a2 := h4 (j - 8) (by omega) (by omega)
    apply sX12_stuck_3
    refine ⟨?_, ⟨fun h1 => ?_, fun h1 => ⟨?_, ⟨?_, ⟨?_, ⟨?_, ⟨?_, ⟨?_, ⟨?_, ⟨?_, ⟨fun h2 => ⟨?_, ?_⟩, fun h2 => ?_⟩⟩⟩⟩⟩⟩⟩⟩⟩⟩⟩
    all_goals (try omega)
    · rw [if_neg (by omega)] at kk
      exact ih () ⟨by omega, kk⟩
    · rw [if_pos (by omega)] at kk
      exact kk
set_option maxRecDepth 20000 in
theorem sX12_raise_0 {G : ZG} {d : Nat} {iv : Nat → Nat → Int} {K : Option AV → AH → Prop} {x1 x2 : Int} (h : (0 ≤ x1 ∧ x1 < (800 : Nat)) ∧ (((iv 15 ((x1).toNat)) < x2 → ((0 ≤ x1 ∧ x1 < (800 : Nat)) ∧ (K none (mkM (iu (iu iv 15 ((x1).toNat) x2) 0 20 1))))) ∧ (x2 ≤ (iv 15 ((x1).toNat)) → (K none (mkM iv))))) : Z G mX12_raise d 0 0 0 [vr (some 0), vi x1, vi x2] [] (mkM iv) K := (Z_aload_n (dX12_raise 0) rfl (Z_gRM (r := (some 15)) (dX12_raise 1) lk_X12_63 sM0 rfl rfl (Z_iload_n (dX12_raise 2) rfl (Z_ilM (x := (iv 15 ((x1).toNat))) (dX12_raise 3) sM15 h.1 rfl (Z_iload_n (dX12_raise 4) rfl (Z_icmp_lt (dX12_raise 5) rfl (fun c1 => (Z_aload_n (dX12_raise 7) rfl (Z_gRM (r := (some 15)) (dX12_raise 8) lk_X12_63 sM0 rfl rfl (Z_iload_n (dX12_raise 9) rfl (Z_iload_n (dX12_raise 10) rfl (Z_iastM (dX12_raise 11) sM15 (h.2.1 c1).1 (Z_aload_n (dX12_raise 12) rfl (Z_iconst (dX12_raise 13) ⟨by decide, by decide⟩ (Z_putZM (dX12_raise 14) lk_X12_256 sM0 rfl (Or.inr rfl) (Or.inl rfl) (Z_return (dX12_raise 15) rfl (h.2.1 c1).2)))))))))) (fun c2 => (Z_return (dX12_raise 6) rfl (h.2.2 c2)))))))))
/-- a place is raised -/
def mraise (iv : Nat → Nat → Int) (i v : Int) : Nat → Nat → Int := if v ≤ iv 15 i.toNat then iv else iu (iu iv 15 i.toNat v) 0 20 1
theorem M_raise {G : ZG} {d : Nat} {iv : Nat → Nat → Int} {K : Option AV → AH → Prop} {x1 x2 : Int} (h : 0 ≤ x1 ∧ x1 < 800) (k : K none (mkM (mraise iv x1 x2))) : Z G mX12_raise d 0 0 0 [vr (some 0), vi x1, vi x2] [] (mkM iv) K := by
  unfold mraise at k
  apply sX12_raise_0
  refine ⟨?_, ⟨fun h1 => ⟨?_, ?_⟩, fun h1 => ?_⟩⟩
  all_goals (try omega)
  · rw [if_neg (by omega)] at k; exact k
  · rw [if_pos (by omega)] at k; exact k

