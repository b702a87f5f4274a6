/-! ===== sides: settling, and what is asked of places ===== -/
set_option maxRecDepth 20000 in
theorem sX7_settle_0 {G : ZG} {d : Nat} {iv : Nat → Nat → Int} {K : Option AV → AH → Prop} {rv : Nat → Nat → Option Nat} {o0 : Nat} (hR : RC rv) (h_o0 : isSd o0) (h : (-2147483648 ≤ ((iv o0 6) + (iv 14 2)) ∧ ((iv o0 6) + (iv 14 2)) ≤ 2147483647) ∧ ((((iv o0 6) + (iv 14 2)) = (iv o0 7) → (((iv o0 8) = 0 ∨ (iv o0 8) = 1) ∧ K (some (vi (iv o0 8))) (mkC iv rv))) ∧ (¬ ((iv o0 6) + (iv 14 2)) = (iv o0 7) → ((okSd (iu iv o0 7 ((iv o0 6) + (iv 14 2))) o0) ∧ (((0 : Int) ≤ 40 ∧ 40 ≤ (40 : Int)) ∧ ((¬ (nearC (iu iv o0 7 ((iv o0 6) + (iv 14 2))) o0 40) = (-1) → (K (some (vi 0)) (mkC (iu (iu iv o0 7 ((iv o0 6) + (iv 14 2))) o0 8 0) rv))) ∧ ((nearC (iu iv o0 7 ((iv o0 6) + (iv 14 2))) o0 40) = (-1) → ((okSd (iu (iu iv o0 7 ((iv o0 6) + (iv 14 2))) o0 8 1) o0) ∧ ((nearC (iu (iu iv o0 7 ((iv o0 6) + (iv 14 2))) o0 8 1) o0 40 = -1) ∧ ((∀ (v6 : Nat → Nat → Int), ((∀ i, i ≠ o0 + 3 → v6 i = (iu (iu iv o0 7 ((iv o0 6) + (iv 14 2))) o0 8 1) i) ∧ leastC v6 o0) → (((v6 o0 8) = 0 ∨ (v6 o0 8) = 1) ∧ K (some (vi (v6 o0 8))) (mkC v6 rv))))))))))))) : Z G mX7_settle (d + 2) 0 0 0 [vr (some o0), vu] [] (mkC iv rv) K := (Z_aload_n (dX7_settle 0) rfl (Z_gIC (x := (iv o0 6)) (dX7_settle 1) lk_X7_35 (Sd_sh h_o0) (Or.inl rfl) rfl (Z_aload_n (dX7_settle 2) rfl (Z_gRC (r := (some 14)) (dX7_settle 3) lk_X7_9 (Sd_sh h_o0) rfl (Sd_r0 hR h_o0) (Z_gIC (x := (iv 14 2)) (dX7_settle 4) lk_X7_74 sC14 (Or.inl rfl) rfl (Z_iadd (dX7_settle 5) h.1 (Z_istore_n (dX7_settle 6) (Nat.le_of_ble_eq_true rfl) rfl (Z_iload_n (dX7_settle 7) rfl (Z_aload_n (dX7_settle 8) rfl (Z_gIC (x := (iv o0 7)) (dX7_settle 9) lk_X7_29 (Sd_sh h_o0) (Or.inl rfl) rfl (Z_icmp_eq (dX7_settle 10) rfl (fun c1 => (Z_aload_n (dX7_settle 29) rfl (Z_gIC (x := (iv o0 8)) (dX7_settle 30) lk_X7_75 (Sd_sh h_o0) (Or.inr rfl) rfl (Z_zreturn (dX7_settle 31) rfl (h.2.1 c1).1 (h.2.1 c1).2)))) (fun c2 => (Z_aload_n (dX7_settle 11) rfl (Z_iload_n (dX7_settle 12) rfl (Z_putIC (dX7_settle 13) lk_X7_29 (Sd_sh h_o0) rfl (Or.inl rfl) (Z_aload_n (dX7_settle 14) rfl (Z_aload_n (dX7_settle 15) rfl (Z_bipush (dX7_settle 16) ⟨by decide, by decide⟩ (Z_cVC (As := [vi 40]) (S := [vr (some o0)]) (dX7_settle 17) lk_X7_70 (Sd_sh h_o0) (by decide) rfl rfl (Nat.le_of_ble_eq_true rfl) (Nat.le_of_ble_eq_true rfl) (C_firstTooNear hR (h.2.2 c2).1 (h.2.2 c2).2.1 ((Z_iconst (dX7_settle 18) ⟨by decide, by decide⟩ (Z_icmp_ne (dX7_settle 19) rfl (fun c3 => (Z_iconst (dX7_settle 22) ⟨by decide, by decide⟩ (Z_putZC (dX7_settle 23) lk_X7_75 (Sd_sh h_o0) rfl (Or.inl rfl) (Or.inl rfl) (Z_aload_n (dX7_settle 24) rfl (Z_gIC (x := 0) (dX7_settle 25) lk_X7_75 (Sd_sh h_o0) (Or.inr rfl) iu_eq (Z_if_eq (dX7_settle 26) rfl (fun _ => (Z_aload_n (dX7_settle 29) rfl (Z_gIC (x := 0) (dX7_settle 30) lk_X7_75 (Sd_sh h_o0) (Or.inr rfl) iu_eq (Z_zreturn (dX7_settle 31) rfl (Or.inl rfl) ((h.2.2 c2).2.2.1 c3))))) (fun c5 => absurd c5 (by decide)))))))) (fun c4 => (Z_iconst (dX7_settle 20) ⟨by decide, by decide⟩ (Z_goto (dX7_settle 21) rfl (Z_putZC (dX7_settle 23) lk_X7_75 (Sd_sh h_o0) rfl (Or.inr rfl) (Or.inl rfl) (Z_aload_n (dX7_settle 24) rfl (Z_gIC (x := 1) (dX7_settle 25) lk_X7_75 (Sd_sh h_o0) (Or.inr rfl) iu_eq (Z_if_eq (dX7_settle 26) rfl (fun c8 => absurd c8 (by decide)) (fun _ => (Z_aload_n (dX7_settle 27) rfl (Z_cVC (As := []) (S := []) (dX7_settle 28) lk_X7_79 (Sd_sh h_o0) (by decide) rfl rfl (Nat.le_of_ble_eq_true rfl) (Nat.le_of_ble_eq_true rfl) (C_layOut hR ((h.2.2 c2).2.2.2 c4).1 ((h.2.2 c2).2.2.2 c4).2.1 (fun v6 c7 => (Z_aload_n (dX7_settle 29) rfl (Z_gIC (x := (v6 o0 8)) (dX7_settle 30) lk_X7_75 (Sd_sh h_o0) (Or.inr rfl) rfl (Z_zreturn (dX7_settle 31) rfl (((h.2.2 c2).2.2.2 c4).2.2 v6 c7).1 (((h.2.2 c2).2.2.2 c4).2.2 v6 c7).2))))))))))))))))))))))))))))))))))))))
/-- only the places and the notes of the last settling may differ -/
def SdF (iv v : Nat → Nat → Int) (o : Nat) : Prop := ∀ i j, i ≠ o + 3 → ¬ (i = o ∧ (j = 7 ∨ j = 8)) → v i j = iv i j
theorem SdF.row {iv v : Nat → Nat → Int} {o i : Nat} (h : SdF iv v o) (h1 : i ≠ o + 3) (h2 : i ≠ o) : v i = iv i := by
  funext j; exact h i j h1 (fun q => h2 q.1)
theorem SdF.refl {iv : Nat → Nat → Int} {o : Nat} : SdF iv iv o := fun _ _ _ _ => rfl
theorem SdF.trans {iv v w : Nat → Nat → Int} {o : Nat} (h : SdF iv v o) (h' : SdF v w o) : SdF iv w o := fun i j a b => (h' i j a b).trans (h i j a b)
theorem SdF.near {iv v : Nat → Nat → Int} {o : Nat} {c : Int} (h0 : isSd o) (h : SdF iv v o) : nearC v o c = nearC iv o c := by
  have hn : o ≠ 14 ∧ 14 ≠ o + 3 := by unfold isSd at h0; omega
  unfold nearC
  rw [h.row (i := 14) hn.2 (Ne.symm hn.1), h.row (i := o + 1) (by omega) (by omega), h o 4 (by omega) (by omega)]
theorem SdF.ok {iv v : Nat → Nat → Int} {o : Nat} (h0 : okSd iv o) (h : SdF iv v o) : okSd v o := by
  have hn : o ≠ 14 ∧ 14 ≠ o + 3 := by have := h0.1; unfold isSd at this; omega
  unfold okSd at *
  rw [h.row (i := 14) hn.2 (Ne.symm hn.1), h.row (i := o + 1) (by omega) (by omega), h o 4 (by omega) (by omega), h o 6 (by omega) (by omega)]
  exact h0
/-- what the last settling left -/
def cacheC (iv : Nat → Nat → Int) (o : Nat) : Prop := iv o 7 = iv o 6 + iv 14 2 → iv o 8 = b01 (nearC iv o 40 = -1) ∧ (nearC iv o 40 = -1 → leastC iv o)
theorem C_settle {G : ZG} {d : Nat} {iv : Nat → Nat → Int} {K : Option AV → AH → Prop} {rv : Nat → Nat → Option Nat} {o0 : Nat} (hR : RC rv) (h0 : okSd iv o0) (hc : cacheC iv o0) (k : ∀ v : Nat → Nat → Int, SdF iv v o0 ∧ v o0 7 = iv o0 6 + iv 14 2 ∧ v o0 8 = b01 (nearC iv o0 40 = -1) ∧ (nearC iv o0 40 = -1 → leastC v o0) → K (some (vi (b01 (nearC iv o0 40 = -1)))) (mkC v rv)) : Z G mX7_settle (d + 2) 0 0 0 [vr (some o0), vu] [] (mkC iv rv) K := by
  have h_o0 := h0.1
  have hb := h0.2.2.2.2
  apply sX7_settle_0 hR h_o0
  refine ⟨by omega, fun e => ?_, fun e => ?_⟩
  · obtain ⟨c1, c2⟩ := hc e.symm
    refine ⟨by rw [c1]; unfold b01; split <;> omega, ?_⟩
    have := k iv ⟨SdF.refl, e.symm, c1, c2⟩
    rw [c1]
    exact this
  · have f1 : SdF iv (iu iv o0 7 (iv o0 6 + iv 14 2)) o0 := by
      intro i j a b
      unfold iu
      exact if_neg (by omega)
    have f2 : ∀ x, SdF iv (iu (iu iv o0 7 (iv o0 6 + iv 14 2)) o0 8 x) o0 := by
      intro x i j a b
      have := f1 i j a b
      rw [← this]
      conv => lhs; unfold iu
      exact if_neg (by omega)
    refine ⟨f1.ok h0, by omega, fun n => ?_, fun n => ⟨(f2 1).ok h0, ?_, ?_⟩⟩
    · rw [f1.near h_o0] at n
      have := k (iu (iu iv o0 7 (iv o0 6 + iv 14 2)) o0 8 0) ⟨f2 0, by rw [iu_k (by omega), iu_eq], by rw [iu_eq]; unfold b01; exact (if_neg n).symm, fun q => absurd q n⟩
      unfold b01 at this
      rw [if_neg n] at this
      exact this
    · rw [(f2 1).near h_o0]; rw [f1.near h_o0] at n; exact n
    · rintro v ⟨g1, g2⟩
      rw [f1.near h_o0] at n
      have e8 : v o0 8 = 1 := by rw [g1 o0 (by omega), iu_eq]
      have f3 : SdF iv v o0 := by
        intro i j a b
        rw [g1 i a]
        exact f2 1 i j a b
      refine ⟨Or.inr e8, ?_⟩
      have := k v ⟨f3, by rw [g1 o0 (by omega), iu_k (by omega), iu_eq], by rw [e8]; unfold b01; exact (if_pos n).symm, fun _ => g2⟩
      unfold b01 at this
      rw [if_pos n] at this
      rw [e8]
      exact this
theorem leastC_ub {iv : Nat → Nat → Int} {o : Nat} (h0 : okSd iv o) (hn : nearC iv o 40 = -1) (h : leastC iv o) : ∀ k : Int, 0 ≤ k → k < iv o 4 → 0 ≤ iv (o + 3) k.toNat ∧ iv (o + 3) k.toNat ≤ 8000 := by
  intro k a b
  have e := Least.ub (by have := h0.2.2.1; omega) ((nearC_none h0.2.2.2.1).mp hn) h k a b
  have h2 := h0.2.1
  have h3 := h0.2.2.1
  have : k * iv 14 1 ≤ 400 * 20 := Int.mul_le_mul (by omega) (by omega) (by omega) (by omega)
  omega
set_option maxRecDepth 20000 in
theorem sX7_extent_0 {G : ZG} {d : Nat} {iv : Nat → Nat → Int} {K : Option AV → AH → Prop} {rv : Nat → Nat → Option Nat} {o0 : Nat} (hR : RC rv) (h_o0 : isSd o0) (h : (¬ (iv o0 4) = 0 → ((-2147483648 ≤ ((iv o0 4) - 1) ∧ ((iv o0 4) - 1) ≤ 2147483647) ∧ ((0 ≤ ((iv o0 4) - 1) ∧ ((iv o0 4) - 1) < (400 : Nat)) ∧ ((-2147483648 ≤ ((iv o0 4) - 1) ∧ ((iv o0 4) - 1) ≤ 2147483647) ∧ ((0 ≤ ((iv o0 4) - 1) ∧ ((iv o0 4) - 1) < (400 : Nat)) ∧ ((-2147483648 ≤ ((iv (o0 + 3) (((iv o0 4) - 1).toNat)) + (iv (o0 + 1) (((iv o0 4) - 1).toNat))) ∧ ((iv (o0 + 3) (((iv o0 4) - 1).toNat)) + (iv (o0 + 1) (((iv o0 4) - 1).toNat))) ≤ 2147483647) ∧ (K (some (vi ((iv (o0 + 3) (((iv o0 4) - 1).toNat)) + (iv (o0 + 1) (((iv o0 4) - 1).toNat))))) (mkC iv rv)))))))) ∧ ((iv o0 4) = 0 → (K (some (vi 0)) (mkC iv rv)))) : Z G mX7_extent d 0 0 0 [vr (some o0)] [] (mkC iv rv) K := (Z_aload_n (dX7_extent 0) rfl (Z_gIC (x := (iv o0 4)) (dX7_extent 1) lk_X7_32 (Sd_sh h_o0) (Or.inl rfl) rfl (Z_if_ne (dX7_extent 2) rfl (fun c1 => (Z_aload_n (dX7_extent 5) rfl (Z_gRC (r := (some (o0 + 3))) (dX7_extent 6) lk_X7_22 (Sd_sh h_o0) rfl (Sd_r3 hR h_o0) (Z_aload_n (dX7_extent 7) rfl (Z_gIC (x := (iv o0 4)) (dX7_extent 8) lk_X7_32 (Sd_sh h_o0) (Or.inl rfl) rfl (Z_iconst (dX7_extent 9) ⟨by decide, by decide⟩ (Z_isub (dX7_extent 10) (h.1 c1).1 (Z_ilC (x := (iv (o0 + 3) (((iv o0 4) - 1).toNat))) (dX7_extent 11) (Sd_a3 h_o0) (h.1 c1).2.1 rfl (Z_aload_n (dX7_extent 12) rfl (Z_gRC (r := (some (o0 + 1))) (dX7_extent 13) lk_X7_15 (Sd_sh h_o0) rfl (Sd_r1 hR h_o0) (Z_aload_n (dX7_extent 14) rfl (Z_gIC (x := (iv o0 4)) (dX7_extent 15) lk_X7_32 (Sd_sh h_o0) (Or.inl rfl) rfl (Z_iconst (dX7_extent 16) ⟨by decide, by decide⟩ (Z_isub (dX7_extent 17) (h.1 c1).2.2.1 (Z_ilC (x := (iv (o0 + 1) (((iv o0 4) - 1).toNat))) (dX7_extent 18) (Sd_a1 h_o0) (h.1 c1).2.2.2.1 rfl (Z_iadd (dX7_extent 19) (h.1 c1).2.2.2.2.1 (Z_ireturn (dX7_extent 20) rfl (h.1 c1).2.2.2.2.2))))))))))))))))) (fun c2 => (Z_iconst (dX7_extent 3) ⟨by decide, by decide⟩ (Z_goto (dX7_extent 4) rfl (Z_ireturn (dX7_extent 20) rfl (h.2 c2))))))))
def roomC (iv : Nat → Nat → Int) (o : Nat) : Int := if iv o 4 = 0 then 0 else iv (o + 3) (iv o 4 - 1).toNat + iv (o + 1) (iv o 4 - 1).toNat
theorem C_extent {G : ZG} {d : Nat} {iv : Nat → Nat → Int} {K : Option AV → AH → Prop} {rv : Nat → Nat → Option Nat} {o0 : Nat} (hR : RC rv) (h0 : okSd iv o0) (hp : ∀ k : Int, 0 ≤ k → k < iv o0 4 → 0 ≤ iv (o0 + 3) k.toNat ∧ iv (o0 + 3) k.toNat ≤ 100000) (k : K (some (vi (roomC iv o0))) (mkC iv rv)) : Z G mX7_extent d 0 0 0 [vr (some o0)] [] (mkC iv rv) K := by
  have h_o0 := h0.1
  have h2 := h0.2.1
  apply sX7_extent_0 hR h_o0
  unfold roomC at k
  refine ⟨fun n => ?_, fun e => by rw [if_pos e] at k; exact k⟩
  rw [if_neg n] at k
  have := hp (iv o0 4 - 1) (by omega) (by omega)
  have := h0.2.2.2.1 (iv o0 4 - 1) (by omega) (by omega)
  exact ⟨by omega, by omega, by omega, by omega, by omega, k⟩
set_option maxRecDepth 20000 in
theorem sX7_tightPart_0 {G : ZG} {d : Nat} {iv : Nat → Nat → Int} {K : Option AV → AH → Prop} {rv : Nat → Nat → Option Nat} {o0 : Nat} {x1 : Int} (hR : RC rv) (h_o0 : isSd o0) (h : Z G mX7_tightPart (d + 1) 0 0 5 [vr (some o0), vi x1, vi 0, vi 8] [] (mkC iv rv) K) : Z G mX7_tightPart (d + 1) 0 0 0 [vr (some o0), vi x1, vu, vu] [] (mkC iv rv) K := (Z_iconst (dX7_tightPart 0) ⟨by decide, by decide⟩ (Z_istore_n (dX7_tightPart 1) (Nat.le_of_ble_eq_true rfl) rfl (Z_bipush (dX7_tightPart 2) ⟨by decide, by decide⟩ (Z_istore_n (dX7_tightPart 3) (Nat.le_of_ble_eq_true rfl) rfl h))))
set_option maxRecDepth 20000 in
theorem sX7_tightPart_5 {G : ZG} {d : Nat} {iv : Nat → Nat → Int} {K : Option AV → AH → Prop} {rv : Nat → Nat → Option Nat} {o0 : Nat} {x1 x2 x3 : Int} (hR : RC rv) (h_o0 : isSd o0) (h : ((iv o0 4) ≤ x3 → (K (some (vi (-1))) (mkC iv rv))) ∧ (x3 < (iv o0 4) → ((0 ≤ x3 ∧ x3 < (400 : Nat)) ∧ ((8 ≤ x3 ∧ x3 < 400) ∧ ((0 ≤ iv (o0 + 3) (x3 - 8).toNat ∧ iv (o0 + 3) (x3 - 8).toNat ≤ 1000000) ∧ (((0 ≤ iv (o0 + 1) (x3 - 8).toNat ∧ iv (o0 + 1) (x3 - 8).toNat ≤ 40) ∧ (0 ≤ iv (o0 + 1) (x3).toNat ∧ iv (o0 + 1) (x3).toNat ≤ 40) ∧ (1 ≤ iv 14 0 ∧ iv 14 0 ≤ 20)) ∧ ((¬ (iv (o0 + 3) ((x3).toNat)) = (iv (o0 + 3) (x3 - 8).toNat + iv (o0 + 1) (x3 - 8).toNat + iv (o0 + 1) (x3).toNat + iv 14 0) → ((-2147483648 ≤ (x3 + 1) ∧ (x3 + 1) ≤ 2147483647) ∧ (Z G mX7_tightPart (d + 1) 0 0 5 [vr (some o0), vi x1, vi x2, vi (x3 + 1)] [] (mkC iv rv) K))) ∧ ((iv (o0 + 3) ((x3).toNat)) = (iv (o0 + 3) (x3 - 8).toNat + iv (o0 + 1) (x3 - 8).toNat + iv (o0 + 1) (x3).toNat + iv 14 0) → ((¬ x2 = x1 → ((-2147483648 ≤ (x2 + 1) ∧ (x2 + 1) ≤ 2147483647) ∧ ((-2147483648 ≤ (x3 + 1) ∧ (x3 + 1) ≤ 2147483647) ∧ (Z G mX7_tightPart (d + 1) 0 0 5 [vr (some o0), vi x1, vi (x2 + 1), vi (x3 + 1)] [] (mkC iv rv) K)))) ∧ (x2 = x1 → (K (some (vi x3)) (mkC iv rv)))))))))))) : Z G mX7_tightPart (d + 1) 0 0 5 [vr (some o0), vi x1, vi x2, vi x3] [] (mkC iv rv) K := (Z_iload_n (dX7_tightPart 4) rfl (Z_aload_n (dX7_tightPart 5) rfl (Z_gIC (x := (iv o0 4)) (dX7_tightPart 6) lk_X7_32 (Sd_sh h_o0) (Or.inl rfl) rfl (Z_icmp_ge (dX7_tightPart 7) rfl (fun c1 => (Z_iconst (dX7_tightPart 24) ⟨by decide, by decide⟩ (Z_ireturn (dX7_tightPart 25) rfl (h.1 c1)))) (fun c2 => (Z_aload_n (dX7_tightPart 8) rfl (Z_gRC (r := (some (o0 + 3))) (dX7_tightPart 9) lk_X7_22 (Sd_sh h_o0) rfl (Sd_r3 hR h_o0) (Z_iload_n (dX7_tightPart 10) rfl (Z_ilC (x := (iv (o0 + 3) ((x3).toNat))) (dX7_tightPart 11) (Sd_a3 h_o0) (h.2 c2).1 rfl (Z_aload_n (dX7_tightPart 12) rfl (Z_iload_n (dX7_tightPart 13) rfl (Z_cVC (As := [vi x3]) (S := [vi (iv (o0 + 3) ((x3).toNat))]) (dX7_tightPart 14) lk_X7_82 (Sd_sh h_o0) (by decide) rfl rfl (Nat.le_of_ble_eq_true rfl) (Nat.le_of_ble_eq_true rfl) (C_placeBehind hR h_o0 (h.2 c2).2.1 (h.2 c2).2.2.1 (h.2 c2).2.2.2.1 ((Z_icmp_ne (dX7_tightPart 15) rfl (fun c3 => (Z_iinc (dX7_tightPart 22) rfl (Nat.le_of_ble_eq_true rfl) ((h.2 c2).2.2.2.2.1 c3).1 rfl (Z_goto (dX7_tightPart 23) rfl ((h.2 c2).2.2.2.2.1 c3).2))) (fun c4 => (Z_iload_n (dX7_tightPart 16) rfl (Z_iload_n (dX7_tightPart 17) rfl (Z_icmp_ne (dX7_tightPart 18) rfl (fun c5 => (Z_iinc (dX7_tightPart 21) rfl (Nat.le_of_ble_eq_true rfl) (((h.2 c2).2.2.2.2.2 c4).1 c5).1 rfl (Z_iinc (dX7_tightPart 22) rfl (Nat.le_of_ble_eq_true rfl) (((h.2 c2).2.2.2.2.2 c4).1 c5).2.1 rfl (Z_goto (dX7_tightPart 23) rfl (((h.2 c2).2.2.2.2.2 c4).1 c5).2.2)))) (fun c6 => (Z_iload_n (dX7_tightPart 19) rfl (Z_ireturn (dX7_tightPart 20) rfl (((h.2 c2).2.2.2.2.2 c4).2 c6)))))))))))))))))))))))
def tightC (iv : Nat → Nat → Int) (o : Nat) (x : Int) : Int := nthf (fun k => iv (o + 3) k.toNat = iv (o + 3) (k - 8).toNat + iv (o + 1) (k - 8).toNat + iv (o + 1) k.toNat + iv 14 0) x 8 (iv o 4 - 8).toNat
theorem C_tightPart {G : ZG} {d : Nat} {iv : Nat → Nat → Int} {K : Option AV → AH → Prop} {rv : Nat → Nat → Option Nat} {o0 : Nat} {x1 : Int} (hR : RC rv) (h0 : okSd iv o0) (hp : ∀ k : Int, 0 ≤ k → k < iv o0 4 → 0 ≤ iv (o0 + 3) k.toNat ∧ iv (o0 + 3) k.toNat ≤ 100000) (k : K (some (vi (tightC iv o0 x1))) (mkC iv rv)) : Z G mX7_tightPart (d + 1) 0 0 0 [vr (some o0), vi x1, vu, vu] [] (mkC iv rv) K := by
  obtain ⟨h_o0, h2, h3, h4, h5⟩ := h0
  apply sX7_tightPart_0 hR h_o0
  unfold tightC at k
  by_cases hn : iv o0 4 ≤ 8
  · rw [show (iv o0 4 - 8).toNat = 0 by omega] at k
    apply sX7_tightPart_5 hR h_o0
    exact ⟨fun _ => k, fun h => by omega⟩
  refine lp_up (P := fun p l => Z G mX7_tightPart (d + 1) 0 0 5 [vr (some o0), vi x1, vi l, vi p] [] (mkC iv rv) K) (iv o0 4) (fun p l => 8 ≤ p ∧ (0 ≤ l ∧ l ≤ p) ∧ K (some (vi (nthf (fun k => iv (o0 + 3) k.toNat = iv (o0 + 3) (k - 8).toNat + iv (o0 + 1) (k - 8).toNat + iv (o0 + 1) k.toNat + iv 14 0) (x1 - l) p (iv o0 4 - p).toNat))) (mkC iv rv)) ?_ ?_ 8 0 (by omega) ⟨by omega, by omega, by rw [show x1 - 0 = x1 by omega]; exact k⟩
  · rintro l ⟨p8, hl, kk⟩
    rw [show (iv o0 4 - iv o0 4).toNat = 0 by omega] at kk
    apply sX7_tightPart_5 hR h_o0
    exact ⟨fun _ => kk, fun h => by omega⟩
  · rintro p l hp1 ⟨p8, hl, kk⟩ ih
    rw [show (iv o0 4 - p).toNat = (iv o0 4 - (p + 1)).toNat + 1 by omega] at kk
    unfold nthf at kk
    have a1 := h4 p (by omega) (by omega)
    have a2 := h4 (p - 8) (by omega) (by omega)
    have a3 := hp (p - 8) (by omega) (by omega)
    apply sX7_tightPart_5 hR h_o0
    refine ⟨fun h => by omega, fun _ => ⟨by omega, by omega, by omega, by omega, fun n => ⟨by omega, ih l ⟨by omega, by omega, ?_⟩⟩, fun e => ⟨fun n => ⟨by omega, by omega, ih (l + 1) ⟨by omega, by omega, ?_⟩⟩, fun e2 => ?_⟩⟩⟩
    · rw [if_neg n] at kk; exact kk
    · rw [if_pos e, if_neg (by omega)] at kk
      rw [show x1 - (l + 1) = x1 - l - 1 by omega]
      exact kk
    · rw [if_pos e, if_pos (by omega)] at kk; exact kk
set_option maxRecDepth 20000 in
theorem sX7_songOf_0 {G : ZG} {d : Nat} {iv : Nat → Nat → Int} {K : Option AV → AH → Prop} {rv : Nat → Nat → Option Nat} {o0 : Nat} {x1 : Int} (hR : RC rv) (h_o0 : isSd o0) (h : (-2147483648 ≤ ((iv o0 4) - 1) ∧ ((iv o0 4) - 1) ≤ 2147483647) ∧ ((¬ (0 ≤ x1 ∧ x1 ≤ ((iv o0 4) - 1)) → (K (some (vi (iv o0 5))) (mkC iv rv))) ∧ (0 ≤ x1 ∧ x1 ≤ ((iv o0 4) - 1) → ((0 ≤ x1 ∧ x1 < (400 : Nat)) ∧ (K (some (vi (iv (o0 + 2) ((x1).toNat)))) (mkC iv rv)))))) : Z G mX7_songOf (d + 1) 0 0 0 [vr (some o0), vi x1] [] (mkC iv rv) K := (Z_iload_n (dX7_songOf 0) rfl (Z_iconst (dX7_songOf 1) ⟨by decide, by decide⟩ (Z_aload_n (dX7_songOf 2) rfl (Z_gIC (x := (iv o0 4)) (dX7_songOf 3) lk_X7_32 (Sd_sh h_o0) (Or.inl rfl) rfl (Z_iconst (dX7_songOf 4) ⟨by decide, by decide⟩ (Z_isub (dX7_songOf 5) h.1 (Z_cN (As := [vi x1, vi 0, vi ((iv o0 4) - 1)]) (S := []) (dX7_songOf 6) lk_X7_92 rfl (Nat.le_of_ble_eq_true rfl) (Nat.le_of_ble_eq_true rfl) (C_within hR ((Z_if_eq (dX7_songOf 7) rfl (fun c1 => (Z_aload_n (dX7_songOf 13) rfl (Z_gIC (x := (iv o0 5)) (dX7_songOf 14) lk_X7_25 (Sd_sh h_o0) (Or.inl rfl) rfl (Z_ireturn (dX7_songOf 15) rfl (h.2.1 (b01_0.mp c1)))))) (fun c2 => (Z_aload_n (dX7_songOf 8) rfl (Z_gRC (r := (some (o0 + 2))) (dX7_songOf 9) lk_X7_19 (Sd_sh h_o0) rfl (Sd_r2 hR h_o0) (Z_iload_n (dX7_songOf 10) rfl (Z_ilC (x := (iv (o0 + 2) ((x1).toNat))) (dX7_songOf 11) (Sd_a2 h_o0) (h.2.2 (b01_n.mp c2)).1 rfl (Z_goto (dX7_songOf 12) rfl (Z_ireturn (dX7_songOf 15) rfl (h.2.2 (b01_n.mp c2)).2)))))))))))))))))
theorem C_songOf {G : ZG} {d : Nat} {iv : Nat → Nat → Int} {K : Option AV → AH → Prop} {rv : Nat → Nat → Option Nat} {o0 : Nat} {x1 : Int} (hR : RC rv) (h_o0 : isSd o0) (h2 : 0 ≤ iv o0 4 ∧ iv o0 4 ≤ 400) (k : K (some (vi (if 0 ≤ x1 ∧ x1 < iv o0 4 then iv (o0 + 2) x1.toNat else iv o0 5))) (mkC iv rv)) : Z G mX7_songOf (d + 1) 0 0 0 [vr (some o0), vi x1] [] (mkC iv rv) K := by
  apply sX7_songOf_0 hR h_o0
  refine ⟨by omega, fun n => ?_, fun e => ⟨by omega, ?_⟩⟩
  · rw [if_neg (by omega)] at k; exact k
  · rw [if_pos (by omega)] at k; exact k
set_option maxRecDepth 20000 in
theorem sX7_ringPlace_0 {G : ZG} {d : Nat} {iv : Nat → Nat → Int} {K : Option AV → AH → Prop} {rv : Nat → Nat → Option Nat} {o0 : Nat} {x2 : Int} (hR : RC rv) (h_o0 : isSd o0) (h : ((iv o0 4) = 0 → (K (some (vi (-1))) (mkC iv rv))) ∧ (¬ (iv o0 4) = 0 → ((0 ≤ (iv 10 3) ∧ (iv 10 3) ≤ 10) ∧ ((0 ≤ x2 ∧ x2 < (iv 10 3) ∧ 8 ≤ (iv 12 (x2).toNat) → ((-2147483648 ≤ ((iv o0 4) - 1) ∧ ((iv o0 4) - 1) ≤ 2147483647) ∧ ((0 ≤ ((iv o0 4) - 1) ∧ ((iv o0 4) - 1) < (400 : Nat)) ∧ (Z G mX7_ringPlace (d + 3) 0 0 32 [vr (some o0), vr (some 10), vi x2, vi (iv (o0 + 3) (((iv o0 4) - 1).toNat)), vi 0, vu, vu] [] (mkC iv rv) K)))) ∧ (¬ (0 ≤ x2 ∧ x2 < (iv 10 3) ∧ 8 ≤ (iv 12 (x2).toNat)) → (K (some (vi (-1))) (mkC iv rv))))))) : Z G mX7_ringPlace (d + 3) 0 0 0 [vr (some o0), vr (some 10), vi x2, vu, vu, vu, vu] [] (mkC iv rv) K := (Z_aload_n (dX7_ringPlace 0) rfl (Z_gIC (x := (iv o0 4)) (dX7_ringPlace 1) lk_X7_32 (Sd_sh h_o0) (Or.inl rfl) rfl (Z_if_eq (dX7_ringPlace 2) rfl (fun c1 => (Z_iconst (dX7_ringPlace 7) ⟨by decide, by decide⟩ (Z_ireturn (dX7_ringPlace 8) rfl (h.1 c1)))) (fun c2 => (Z_aload_n (dX7_ringPlace 3) rfl (Z_iload_n (dX7_ringPlace 4) rfl (Z_cVC (As := [vi x2]) (S := []) (dX7_ringPlace 5) lk_X7_88 sC10 (by decide) rfl rfl (Nat.le_of_ble_eq_true rfl) (Nat.le_of_ble_eq_true rfl) (C_canRing hR (h.2 c2).1 ((Z_if_ne (dX7_ringPlace 6) rfl (fun c3 => (Z_aload_n (dX7_ringPlace 9) rfl (Z_gRC (r := (some (o0 + 3))) (dX7_ringPlace 10) lk_X7_22 (Sd_sh h_o0) rfl (Sd_r3 hR h_o0) (Z_aload_n (dX7_ringPlace 11) rfl (Z_gIC (x := (iv o0 4)) (dX7_ringPlace 12) lk_X7_32 (Sd_sh h_o0) (Or.inl rfl) rfl (Z_iconst (dX7_ringPlace 13) ⟨by decide, by decide⟩ (Z_isub (dX7_ringPlace 14) ((h.2 c2).2.1 (b01_n.mp c3)).1 (Z_ilC (x := (iv (o0 + 3) (((iv o0 4) - 1).toNat))) (dX7_ringPlace 15) (Sd_a3 h_o0) ((h.2 c2).2.1 (b01_n.mp c3)).2.1 rfl (Z_istore_n (dX7_ringPlace 16) (Nat.le_of_ble_eq_true rfl) rfl (Z_iconst (dX7_ringPlace 17) ⟨by decide, by decide⟩ (Z_istore (dX7_ringPlace 18) (Nat.le_of_ble_eq_true rfl) rfl ((h.2 c2).2.1 (b01_n.mp c3)).2.2))))))))))) (fun c4 => (Z_iconst (dX7_ringPlace 7) ⟨by decide, by decide⟩ (Z_ireturn (dX7_ringPlace 8) rfl ((h.2 c2).2.2 (b01_0.mp c4)))))))))))))))
set_option maxRecDepth 20000 in
theorem sX7_ringPlace_32 {G : ZG} {d : Nat} {iv : Nat → Nat → Int} {K : Option AV → AH → Prop} {rv : Nat → Nat → Option Nat} {o0 : Nat} {x2 x3 x4 : Int} (hR : RC rv) (h_o0 : isSd o0) (h : (8 ≤ x4 → (K (some (vi x3)) (mkC iv rv))) ∧ (x4 < 8 → ((-2147483648 ≤ ((iv o0 4) + x4) ∧ ((iv o0 4) + x4) ≤ 2147483647) ∧ ((-2147483648 ≤ (((iv o0 4) + x4) - 8) ∧ (((iv o0 4) + x4) - 8) ≤ 2147483647) ∧ (((((iv o0 4) + x4) - 8) < 0 → ((-2147483648 ≤ (x4 + 1) ∧ (x4 + 1) ≤ 2147483647) ∧ (Z G mX7_ringPlace (d + 3) 0 0 32 [vr (some o0), vr (some 10), vi x2, vi x3, vi (x4 + 1), vu, vu] [] (mkC iv rv) K))) ∧ (0 ≤ (((iv o0 4) + x4) - 8) → ((0 ≤ (((iv o0 4) + x4) - 8) ∧ (((iv o0 4) + x4) - 8) < (400 : Nat)) ∧ ((0 ≤ (((iv o0 4) + x4) - 8) ∧ (((iv o0 4) + x4) - 8) < (400 : Nat)) ∧ ((-2147483648 ≤ ((iv (o0 + 3) ((((iv o0 4) + x4) - 8).toNat)) + (iv (o0 + 1) ((((iv o0 4) + x4) - 8).toNat))) ∧ ((iv (o0 + 3) ((((iv o0 4) + x4) - 8).toNat)) + (iv (o0 + 1) ((((iv o0 4) + x4) - 8).toNat))) ≤ 2147483647) ∧ ((0 ≤ x2 ∧ x2 < 10 ∧ 0 ≤ x4 ∧ x4 < 60) ∧ ((-2147483648 ≤ (((iv (o0 + 3) ((((iv o0 4) + x4) - 8).toNat)) + (iv (o0 + 1) ((((iv o0 4) + x4) - 8).toNat))) + (iv 11 (60 * x2 + x4).toNat)) ∧ (((iv (o0 + 3) ((((iv o0 4) + x4) - 8).toNat)) + (iv (o0 + 1) ((((iv o0 4) + x4) - 8).toNat))) + (iv 11 (60 * x2 + x4).toNat)) ≤ 2147483647) ∧ ((-2147483648 ≤ ((((iv (o0 + 3) ((((iv o0 4) + x4) - 8).toNat)) + (iv (o0 + 1) ((((iv o0 4) + x4) - 8).toNat))) + (iv 11 (60 * x2 + x4).toNat)) + (iv 14 0)) ∧ ((((iv (o0 + 3) ((((iv o0 4) + x4) - 8).toNat)) + (iv (o0 + 1) ((((iv o0 4) + x4) - 8).toNat))) + (iv 11 (60 * x2 + x4).toNat)) + (iv 14 0)) ≤ 2147483647) ∧ ((-2147483648 ≤ (x4 + 1) ∧ (x4 + 1) ≤ 2147483647) ∧ (Z G mX7_ringPlace (d + 3) 0 0 32 [vr (some o0), vr (some 10), vi x2, vi (max x3 ((((iv (o0 + 3) ((((iv o0 4) + x4) - 8).toNat)) + (iv (o0 + 1) ((((iv o0 4) + x4) - 8).toNat))) + (iv 11 (60 * x2 + x4).toNat)) + (iv 14 0))), vi (x4 + 1), vu, vu] [] (mkC iv rv) K)))))))))))))) : Z G mX7_ringPlace (d + 3) 0 0 32 [vr (some o0), vr (some 10), vi x2, vi x3, vi x4, vu, vu] [] (mkC iv rv) K := (Z_iload (dX7_ringPlace 19) rfl (Z_bipush (dX7_ringPlace 20) ⟨by decide, by decide⟩ (Z_icmp_ge (dX7_ringPlace 21) rfl (fun c1 => (Z_iload_n (dX7_ringPlace 56) rfl (Z_ireturn (dX7_ringPlace 57) rfl (h.1 c1)))) (fun c2 => (Z_aload_n (dX7_ringPlace 22) rfl (Z_gIC (x := (iv o0 4)) (dX7_ringPlace 23) lk_X7_32 (Sd_sh h_o0) (Or.inl rfl) rfl (Z_iload (dX7_ringPlace 24) rfl (Z_iadd (dX7_ringPlace 25) (h.2 c2).1 (Z_bipush (dX7_ringPlace 26) ⟨by decide, by decide⟩ (Z_isub (dX7_ringPlace 27) (h.2 c2).2.1 (Z_istore (dX7_ringPlace 28) (Nat.le_of_ble_eq_true rfl) rfl (Z_iload (dX7_ringPlace 29) rfl (Z_if_lt (dX7_ringPlace 30) rfl (fun c3 => (Z_iinc (dX7_ringPlace 54) rfl (Nat.le_of_ble_eq_true rfl) ((h.2 c2).2.2.1 c3).1 rfl (Z_goto (dX7_ringPlace 55) rfl (Z.fg (L' := [vr (some o0), vr (some 10), vi x2, vi x3, vi (x4 + 1), vu, vu]) (L := [vr (some o0), vr (some 10), vi x2, vi x3, vi (x4 + 1), vi (((iv o0 4) + x4) - 8), vu]) ⟨Or.inl rfl, ⟨Or.inl rfl, ⟨Or.inl rfl, ⟨Or.inl rfl, ⟨Or.inl rfl, ⟨Or.inr rfl, ⟨Or.inl rfl, trivial⟩⟩⟩⟩⟩⟩⟩ ((h.2 c2).2.2.1 c3).2)))) (fun c4 => (Z_aload_n (dX7_ringPlace 31) rfl (Z_gRC (r := (some (o0 + 3))) (dX7_ringPlace 32) lk_X7_22 (Sd_sh h_o0) rfl (Sd_r3 hR h_o0) (Z_iload (dX7_ringPlace 33) rfl (Z_ilC (x := (iv (o0 + 3) ((((iv o0 4) + x4) - 8).toNat))) (dX7_ringPlace 34) (Sd_a3 h_o0) ((h.2 c2).2.2.2 c4).1 rfl (Z_aload_n (dX7_ringPlace 35) rfl (Z_gRC (r := (some (o0 + 1))) (dX7_ringPlace 36) lk_X7_15 (Sd_sh h_o0) rfl (Sd_r1 hR h_o0) (Z_iload (dX7_ringPlace 37) rfl (Z_ilC (x := (iv (o0 + 1) ((((iv o0 4) + x4) - 8).toNat))) (dX7_ringPlace 38) (Sd_a1 h_o0) ((h.2 c2).2.2.2 c4).2.1 rfl (Z_iadd (dX7_ringPlace 39) ((h.2 c2).2.2.2 c4).2.2.1 (Z_aload_n (dX7_ringPlace 40) rfl (Z_iload_n (dX7_ringPlace 41) rfl (Z_iload (dX7_ringPlace 42) rfl (Z_cVC (As := [vi x2, vi x4]) (S := [vi ((iv (o0 + 3) ((((iv o0 4) + x4) - 8).toNat)) + (iv (o0 + 1) ((((iv o0 4) + x4) - 8).toNat)))]) (dX7_ringPlace 43) lk_X7_47 sC10 (by decide) rfl rfl (Nat.le_of_ble_eq_true rfl) (Nat.le_of_ble_eq_true rfl) (C_levelOf hR ((h.2 c2).2.2.2 c4).2.2.2.1 ((Z_iadd (dX7_ringPlace 44) ((h.2 c2).2.2.2 c4).2.2.2.2.1 (Z_aload_n (dX7_ringPlace 45) rfl (Z_gRC (r := (some 14)) (dX7_ringPlace 46) lk_X7_9 (Sd_sh h_o0) rfl (Sd_r0 hR h_o0) (Z_gIC (x := (iv 14 0)) (dX7_ringPlace 47) lk_X7_62 sC14 (Or.inl rfl) rfl (Z_iadd (dX7_ringPlace 48) ((h.2 c2).2.2.2 c4).2.2.2.2.2.1 (Z_istore (dX7_ringPlace 49) (Nat.le_of_ble_eq_true rfl) rfl (Z_iload_n (dX7_ringPlace 50) rfl (Z_iload (dX7_ringPlace 51) rfl (Z_max (dX7_ringPlace 52) lk_X7_85 mt_max_s mt_ini mt_max_c (Nat.le_of_ble_eq_true rfl) (Z_istore_n (dX7_ringPlace 53) (Nat.le_of_ble_eq_true rfl) rfl (Z_iinc (dX7_ringPlace 54) rfl (Nat.le_of_ble_eq_true rfl) ((h.2 c2).2.2.2 c4).2.2.2.2.2.2.1 rfl (Z_goto (dX7_ringPlace 55) rfl (Z.fg (L' := [vr (some o0), vr (some 10), vi x2, vi (max x3 ((((iv (o0 + 3) ((((iv o0 4) + x4) - 8).toNat)) + (iv (o0 + 1) ((((iv o0 4) + x4) - 8).toNat))) + (iv 11 (60 * x2 + x4).toNat)) + (iv 14 0))), vi (x4 + 1), vu, vu]) (L := [vr (some o0), vr (some 10), vi x2, vi (max x3 ((((iv (o0 + 3) ((((iv o0 4) + x4) - 8).toNat)) + (iv (o0 + 1) ((((iv o0 4) + x4) - 8).toNat))) + (iv 11 (60 * x2 + x4).toNat)) + (iv 14 0))), vi (x4 + 1), vi (((iv o0 4) + x4) - 8), vi ((((iv (o0 + 3) ((((iv o0 4) + x4) - 8).toNat)) + (iv (o0 + 1) ((((iv o0 4) + x4) - 8).toNat))) + (iv 11 (60 * x2 + x4).toNat)) + (iv 14 0))]) ⟨Or.inl rfl, ⟨Or.inl rfl, ⟨Or.inl rfl, ⟨Or.inl rfl, ⟨Or.inl rfl, ⟨Or.inr rfl, ⟨Or.inr rfl, trivial⟩⟩⟩⟩⟩⟩⟩ ((h.2 c2).2.2.2 c4).2.2.2.2.2.2.2))))))))))))))))))))))))))))))))))))))))))
def rgF (n : Int) (p c l : Int → Int) (land : Int) : Int → Nat → Int → Int
  | _, 0, acc => acc
  | k, m + 1, acc => rgF n p c l land (k + 1) m (if 0 ≤ n + k - 8 then max acc (p (n + k - 8) + c (n + k - 8) + l k + land) else acc)
theorem rgF_congr {n : Int} {p c l p' c' l' : Int → Int} {land : Int} (hp : ∀ k, 0 ≤ k → k < n → p k = p' k) (hc : ∀ k, 0 ≤ k → k < n → c k = c' k) (hl : ∀ k, 0 ≤ k → k < 8 → l k = l' k) : ∀ (m : Nat) (k acc : Int), 0 ≤ k → k + m = 8 → rgF n p c l land k m acc = rgF n p' c' l' land k m acc
  | 0, _, _, _, _ => rfl
  | m + 1, k, acc, h1, h2 => by
    unfold rgF
    have : (if 0 ≤ n + k - 8 then max acc (p (n + k - 8) + c (n + k - 8) + l k + land) else acc) = (if 0 ≤ n + k - 8 then max acc (p' (n + k - 8) + c' (n + k - 8) + l' k + land) else acc) := by
      by_cases e : 0 ≤ n + k - 8
      · rw [if_pos e, if_pos e, hp _ e (by omega), hc _ e (by omega), hl k h1 (by omega)]
      · rw [if_neg e, if_neg e]
    rw [this]
    exact rgF_congr hp hc hl m (k + 1) _ (by omega) (by omega)
theorem rgF_r {n : Int} {p c l : Int → Int} {land B : Int} (hp : ∀ k j, 0 ≤ k → k < n → 0 ≤ j → j < 8 → p k + c k + l j + land ≤ B) : ∀ (m : Nat) (k acc : Int), 0 ≤ k → k + m = 8 → 0 ≤ acc → acc ≤ B → 0 ≤ rgF n p c l land k m acc ∧ rgF n p c l land k m acc ≤ B
  | 0, _, _, _, _, a, b => ⟨a, b⟩
  | m + 1, k, acc, h1, h2, a, b => by
    unfold rgF
    apply rgF_r hp m (k + 1) _ (by omega) (by omega)
    · split <;> omega
    · split
      · have := hp (n + k - 8) k (by omega) (by omega) h1 (by omega)
        omega
      · exact b
def ringC (iv : Nat → Nat → Int) (o : Nat) (x : Int) : Int := rgF (iv o 4) (fun k => iv (o + 3) k.toNat) (fun k => iv (o + 1) k.toNat) (fun k => iv 11 (60 * x + k).toNat) (iv 14 0) 0 8 (iv (o + 3) (iv o 4 - 1).toNat)
theorem C_ringPlace {G : ZG} {d : Nat} {iv : Nat → Nat → Int} {K : Option AV → AH → Prop} {rv : Nat → Nat → Option Nat} {o0 : Nat} {x2 : Int} (hR : RC rv) (h0 : okSd iv o0) (hp : iv o0 4 ≠ 0 → (0 ≤ x2 ∧ x2 < iv 10 3 ∧ 8 ≤ iv 12 x2.toNat) → ∀ k : Int, 0 ≤ k → k < iv o0 4 → 0 ≤ iv (o0 + 3) k.toNat ∧ iv (o0 + 3) k.toNat ≤ 100000) (h3 : 0 ≤ iv 10 3 ∧ iv 10 3 ≤ 10) (hl : ∀ k : Int, 0 ≤ k → k < 8 → (0 ≤ x2 ∧ x2 < iv 10 3 ∧ 8 ≤ iv 12 x2.toNat) → 0 ≤ iv 11 (60 * x2 + k).toNat ∧ iv 11 (60 * x2 + k).toNat ≤ 40) (k : K (some (vi (if iv o0 4 = 0 ∨ ¬ (0 ≤ x2 ∧ x2 < iv 10 3 ∧ 8 ≤ iv 12 x2.toNat) then -1 else ringC iv o0 x2))) (mkC iv rv)) : Z G mX7_ringPlace (d + 3) 0 0 0 [vr (some o0), vr (some 10), vi x2, vu, vu, vu, vu] [] (mkC iv rv) K := by
  have hl' := hl
  obtain ⟨h_o0, h2, hr, h4, h5⟩ := h0
  apply sX7_ringPlace_0 hR h_o0
  refine ⟨fun e => ?_, fun n => ⟨h3, fun hs => ⟨by omega, by omega, ?_⟩, fun hs => ?_⟩⟩
  · rw [if_pos (Or.inl e)] at k; exact k
  · rw [if_neg (by omega)] at k
    have hp := hp n hs
    have hl : ∀ k : Int, 0 ≤ k → k < 8 → 0 ≤ iv 11 (60 * x2 + k).toNat ∧ iv 11 (60 * x2 + k).toNat ≤ 40 := fun k a b => hl k a b hs
    unfold ringC at k
    have q := hp (iv o0 4 - 1) (by omega) (by omega)
    refine lp_up (P := fun j a => Z G mX7_ringPlace (d + 3) 0 0 32 [vr (some o0), vr (some 10), vi x2, vi a, vi j, vu, vu] [] (mkC iv rv) K) 8 (fun j a => 0 ≤ j ∧ (0 ≤ a ∧ a ≤ 200000) ∧ K (some (vi (rgF (iv o0 4) (fun k => iv (o0 + 3) k.toNat) (fun k => iv (o0 + 1) k.toNat) (fun k => iv 11 (60 * x2 + k).toNat) (iv 14 0) j (8 - j).toNat a))) (mkC iv rv)) ?_ ?_ 0 _ (by omega) ⟨by omega, by omega, by rw [show ((8 : Int) - 0).toNat = 8 from rfl]; exact k⟩
    · rintro a ⟨-, -, kk⟩
      apply sX7_ringPlace_32 hR h_o0
      exact ⟨fun _ => kk, fun h => by omega⟩
    · rintro j a hj ⟨j0, ha, kk⟩ ih
      rw [show (8 - j).toNat = (8 - (j + 1)).toNat + 1 by omega] at kk
      unfold rgF at kk
      apply sX7_ringPlace_32 hR h_o0
      refine ⟨fun h => by omega, fun _ => ⟨by omega, by omega, fun n => ⟨by omega, ih a ⟨by omega, ha, ?_⟩⟩, fun e => ?_⟩⟩
      · rw [if_neg (by omega)] at kk; exact kk
      · have q1 := hp (iv o0 4 + j - 8) e (by omega)
        have q2 := h4 (iv o0 4 + j - 8) e (by omega)
        have q3 := hl j j0 hj
        rw [if_pos e] at kk
        exact ⟨by omega, by omega, by omega, by omega, by omega, by omega, by omega, ih _ ⟨by omega, by omega, kk⟩⟩
  · rw [if_pos (Or.inr hs)] at k; exact k
set_option maxRecDepth 20000 in
theorem sX12_ringOf_0 {G : ZG} {d : Nat} {iv : Nat → Nat → Int} {K : Option AV → AH → Prop} {x1 x2 : Int} (h : (okSide iv x1) ∧ ((stuckM iv x1 = -1) ∧ ((∀ (v1 : Nat → Nat → Int), (∀ i j, i ≠ 15 → ¬ (i = 0 ∧ j = 20) → v1 i j = iv i j) ∧ leastM iv v1 x1 → ((0 ≤ x1 ∧ x1 < (2 : Nat)) ∧ ((¬ (v1 7 ((x1).toNat)) = 0 → ((-2147483648 ≤ ((v1 7 ((x1).toNat)) - 1) ∧ ((v1 7 ((x1).toNat)) - 1) ≤ 2147483647) ∧ ((0 ≤ x1 ∧ x1 ≤ 1 ∧ -1000 ≤ ((v1 7 ((x1).toNat)) - 1) ∧ ((v1 7 ((x1).toNat)) - 1) ≤ 1000) ∧ ((0 ≤ (400 * x1 + ((v1 7 ((x1).toNat)) - 1)) ∧ (400 * x1 + ((v1 7 ((x1).toNat)) - 1)) < (800 : Nat)) ∧ (Z G mX12_ringOf (d + 3) 0 0 37 [vr (some 0), vi x1, vi x2, vi (v1 7 ((x1).toNat)), vi (v1 15 ((400 * x1 + ((v1 7 ((x1).toNat)) - 1)).toNat)), vi 0, vu] [] (mkM v1) K))))) ∧ ((v1 7 ((x1).toNat)) = 0 → (Z G mX12_ringOf (d + 3) 0 0 37 [vr (some 0), vi x1, vi x2, vi (v1 7 ((x1).toNat)), vi 0, vi 0, vu] [] (mkM v1) K)))))))) : Z G mX12_ringOf (d + 3) 0 0 0 [vr (some 0), vi x1, vi x2, vu, vu, vu, vu] [] (mkM iv) K := (Z_aload_n (dX12_ringOf 0) rfl (Z_iload_n (dX12_ringOf 1) rfl (Z_cVM (As := [vi x1]) (S := []) (dX12_ringOf 2) lk_X12_270 sM0 (by decide) rfl rfl (Nat.le_of_ble_eq_true rfl) (Nat.le_of_ble_eq_true rfl) (M_spread  h.1 h.2.1 (fun v1 c2 => (Z_aload_n (dX12_ringOf 3) rfl (Z_gRM (r := (some 7)) (dX12_ringOf 4) lk_X12_39 sM0 rfl rfl (Z_iload_n (dX12_ringOf 5) rfl (Z_ilM (x := (v1 7 ((x1).toNat))) (dX12_ringOf 6) sM7 (h.2.2 v1 c2).1 rfl (Z_istore_n (dX12_ringOf 7) (Nat.le_of_ble_eq_true rfl) rfl (Z_iload_n (dX12_ringOf 8) rfl (Z_if_ne (dX12_ringOf 9) rfl (fun c3 => (Z_aload_n (dX12_ringOf 12) rfl (Z_gRM (r := (some 15)) (dX12_ringOf 13) lk_X12_63 sM0 rfl rfl (Z_iload_n (dX12_ringOf 14) rfl (Z_iload_n (dX12_ringOf 15) rfl (Z_iconst (dX12_ringOf 16) ⟨by decide, by decide⟩ (Z_isub (dX12_ringOf 17) ((h.2.2 v1 c2).2.1 c3).1 (Z_cS (As := [vi x1, vi ((v1 7 ((x1).toNat)) - 1)]) (S := [vr (some 15)]) (dX12_ringOf 18) lk_X12_245 rfl (Nat.le_of_ble_eq_true rfl) (Nat.le_of_ble_eq_true rfl) (M_at  ((h.2.2 v1 c2).2.1 c3).2.1 ((Z_ilM (x := (v1 15 ((400 * x1 + ((v1 7 ((x1).toNat)) - 1)).toNat))) (dX12_ringOf 19) sM15 ((h.2.2 v1 c2).2.1 c3).2.2.1 rfl (Z_istore (dX12_ringOf 20) (Nat.le_of_ble_eq_true rfl) rfl (Z_iconst (dX12_ringOf 21) ⟨by decide, by decide⟩ (Z_istore (dX12_ringOf 22) (Nat.le_of_ble_eq_true rfl) rfl ((h.2.2 v1 c2).2.1 c3).2.2.2)))))))))))))) (fun c4 => (Z_iconst (dX12_ringOf 10) ⟨by decide, by decide⟩ (Z_goto (dX12_ringOf 11) rfl (Z_istore (dX12_ringOf 20) (Nat.le_of_ble_eq_true rfl) rfl (Z_iconst (dX12_ringOf 21) ⟨by decide, by decide⟩ (Z_istore (dX12_ringOf 22) (Nat.le_of_ble_eq_true rfl) rfl ((h.2.2 v1 c2).2.2 c4)))))))))))))))))))
set_option maxRecDepth 20000 in
theorem sX12_ringOf_37 {G : ZG} {d : Nat} {iv : Nat → Nat → Int} {K : Option AV → AH → Prop} {x1 x2 x3 x4 x5 : Int} (h : (8 ≤ x5 → (K (some (vi x4)) (mkM iv))) ∧ (x5 < 8 → ((-2147483648 ≤ (x3 + x5) ∧ (x3 + x5) ≤ 2147483647) ∧ ((-2147483648 ≤ ((x3 + x5) - 8) ∧ ((x3 + x5) - 8) ≤ 2147483647) ∧ ((((x3 + x5) - 8) < 0 → ((-2147483648 ≤ (x5 + 1) ∧ (x5 + 1) ≤ 2147483647) ∧ (Z G mX12_ringOf (d + 3) 0 0 37 [vr (some 0), vi x1, vi x2, vi x3, vi x4, vi (x5 + 1), vu] [] (mkM iv) K))) ∧ (0 ≤ ((x3 + x5) - 8) → ((x3 ≤ ((x3 + x5) - 8) → ((-2147483648 ≤ (x5 + 1) ∧ (x5 + 1) ≤ 2147483647) ∧ (Z G mX12_ringOf (d + 3) 0 0 37 [vr (some 0), vi x1, vi x2, vi x3, vi x4, vi (x5 + 1), vu] [] (mkM iv) K))) ∧ (((x3 + x5) - 8) < x3 → ((0 ≤ x1 ∧ x1 ≤ 1 ∧ -1000 ≤ ((x3 + x5) - 8) ∧ ((x3 + x5) - 8) ≤ 1000) ∧ ((0 ≤ (400 * x1 + ((x3 + x5) - 8)) ∧ (400 * x1 + ((x3 + x5) - 8)) < (800 : Nat)) ∧ ((0 ≤ x1 ∧ x1 ≤ 1 ∧ -1000 ≤ ((x3 + x5) - 8) ∧ ((x3 + x5) - 8) ≤ 1000) ∧ ((0 ≤ (400 * x1 + ((x3 + x5) - 8)) ∧ (400 * x1 + ((x3 + x5) - 8)) < (800 : Nat)) ∧ ((-2147483648 ≤ ((iv 15 ((400 * x1 + ((x3 + x5) - 8)).toNat)) + (iv 8 ((400 * x1 + ((x3 + x5) - 8)).toNat))) ∧ ((iv 15 ((400 * x1 + ((x3 + x5) - 8)).toNat)) + (iv 8 ((400 * x1 + ((x3 + x5) - 8)).toNat))) ≤ 2147483647) ∧ ((-2147483648 ≤ (60 * x2) ∧ (60 * x2) ≤ 2147483647) ∧ ((-2147483648 ≤ ((60 * x2) + x5) ∧ ((60 * x2) + x5) ≤ 2147483647) ∧ ((0 ≤ ((60 * x2) + x5) ∧ ((60 * x2) + x5) < (600 : Nat)) ∧ ((-2147483648 ≤ (((iv 15 ((400 * x1 + ((x3 + x5) - 8)).toNat)) + (iv 8 ((400 * x1 + ((x3 + x5) - 8)).toNat))) + (iv 6 (((60 * x2) + x5).toNat))) ∧ (((iv 15 ((400 * x1 + ((x3 + x5) - 8)).toNat)) + (iv 8 ((400 * x1 + ((x3 + x5) - 8)).toNat))) + (iv 6 (((60 * x2) + x5).toNat))) ≤ 2147483647) ∧ ((-2147483648 ≤ ((((iv 15 ((400 * x1 + ((x3 + x5) - 8)).toNat)) + (iv 8 ((400 * x1 + ((x3 + x5) - 8)).toNat))) + (iv 6 (((60 * x2) + x5).toNat))) + (iv 0 5)) ∧ ((((iv 15 ((400 * x1 + ((x3 + x5) - 8)).toNat)) + (iv 8 ((400 * x1 + ((x3 + x5) - 8)).toNat))) + (iv 6 (((60 * x2) + x5).toNat))) + (iv 0 5)) ≤ 2147483647) ∧ ((-2147483648 ≤ (x5 + 1) ∧ (x5 + 1) ≤ 2147483647) ∧ (Z G mX12_ringOf (d + 3) 0 0 37 [vr (some 0), vi x1, vi x2, vi x3, vi (max x4 ((((iv 15 ((400 * x1 + ((x3 + x5) - 8)).toNat)) + (iv 8 ((400 * x1 + ((x3 + x5) - 8)).toNat))) + (iv 6 (((60 * x2) + x5).toNat))) + (iv 0 5))), vi (x5 + 1), vu] [] (mkM iv) K)))))))))))))))))))) : Z G mX12_ringOf (d + 3) 0 0 37 [vr (some 0), vi x1, vi x2, vi x3, vi x4, vi x5, vu] [] (mkM iv) K := (Z_iload (dX12_ringOf 23) rfl (Z_bipush (dX12_ringOf 24) ⟨by decide, by decide⟩ (Z_icmp_ge (dX12_ringOf 25) rfl (fun c1 => (Z_iload (dX12_ringOf 67) rfl (Z_ireturn (dX12_ringOf 68) rfl (h.1 c1)))) (fun c2 => (Z_iload_n (dX12_ringOf 26) rfl (Z_iload (dX12_ringOf 27) rfl (Z_iadd (dX12_ringOf 28) (h.2 c2).1 (Z_bipush (dX12_ringOf 29) ⟨by decide, by decide⟩ (Z_isub (dX12_ringOf 30) (h.2 c2).2.1 (Z_istore (dX12_ringOf 31) (Nat.le_of_ble_eq_true rfl) rfl (Z_iload (dX12_ringOf 32) rfl (Z_if_lt (dX12_ringOf 33) rfl (fun c3 => (Z_iinc (dX12_ringOf 65) rfl (Nat.le_of_ble_eq_true rfl) ((h.2 c2).2.2.1 c3).1 rfl (Z_goto (dX12_ringOf 66) rfl (Z.fg (L' := [vr (some 0), vi x1, vi x2, vi x3, vi x4, vi (x5 + 1), vu]) (L := [vr (some 0), vi x1, vi x2, vi x3, vi x4, vi (x5 + 1), vi ((x3 + x5) - 8)]) ⟨Or.inl rfl, ⟨Or.inl rfl, ⟨Or.inl rfl, ⟨Or.inl rfl, ⟨Or.inl rfl, ⟨Or.inl rfl, ⟨Or.inr rfl, trivial⟩⟩⟩⟩⟩⟩⟩ ((h.2 c2).2.2.1 c3).2)))) (fun c4 => (Z_iload (dX12_ringOf 34) rfl (Z_iload_n (dX12_ringOf 35) rfl (Z_icmp_ge (dX12_ringOf 36) rfl (fun c5 => (Z_iinc (dX12_ringOf 65) rfl (Nat.le_of_ble_eq_true rfl) (((h.2 c2).2.2.2 c4).1 c5).1 rfl (Z_goto (dX12_ringOf 66) rfl (Z.fg (L' := [vr (some 0), vi x1, vi x2, vi x3, vi x4, vi (x5 + 1), vu]) (L := [vr (some 0), vi x1, vi x2, vi x3, vi x4, vi (x5 + 1), vi ((x3 + x5) - 8)]) ⟨Or.inl rfl, ⟨Or.inl rfl, ⟨Or.inl rfl, ⟨Or.inl rfl, ⟨Or.inl rfl, ⟨Or.inl rfl, ⟨Or.inr rfl, trivial⟩⟩⟩⟩⟩⟩⟩ (((h.2 c2).2.2.2 c4).1 c5).2)))) (fun c6 => (Z_iload (dX12_ringOf 37) rfl (Z_aload_n (dX12_ringOf 38) rfl (Z_gRM (r := (some 15)) (dX12_ringOf 39) lk_X12_63 sM0 rfl rfl (Z_iload_n (dX12_ringOf 40) rfl (Z_iload (dX12_ringOf 41) rfl (Z_cS (As := [vi x1, vi ((x3 + x5) - 8)]) (S := [vr (some 15), vi x4]) (dX12_ringOf 42) lk_X12_245 rfl (Nat.le_of_ble_eq_true rfl) (Nat.le_of_ble_eq_true rfl) (M_at  (((h.2 c2).2.2.2 c4).2 c6).1 ((Z_ilM (x := (iv 15 ((400 * x1 + ((x3 + x5) - 8)).toNat))) (dX12_ringOf 43) sM15 (((h.2 c2).2.2.2 c4).2 c6).2.1 rfl (Z_aload_n (dX12_ringOf 44) rfl (Z_gRM (r := (some 8)) (dX12_ringOf 45) lk_X12_42 sM0 rfl rfl (Z_iload_n (dX12_ringOf 46) rfl (Z_iload (dX12_ringOf 47) rfl (Z_cS (As := [vi x1, vi ((x3 + x5) - 8)]) (S := [vr (some 8), vi (iv 15 ((400 * x1 + ((x3 + x5) - 8)).toNat)), vi x4]) (dX12_ringOf 48) lk_X12_245 rfl (Nat.le_of_ble_eq_true rfl) (Nat.le_of_ble_eq_true rfl) (M_at  (((h.2 c2).2.2.2 c4).2 c6).2.2.1 ((Z_ilM (x := (iv 8 ((400 * x1 + ((x3 + x5) - 8)).toNat))) (dX12_ringOf 49) sM8 (((h.2 c2).2.2.2 c4).2 c6).2.2.2.1 rfl (Z_iadd (dX12_ringOf 50) (((h.2 c2).2.2.2 c4).2 c6).2.2.2.2.1 (Z_aload_n (dX12_ringOf 51) rfl (Z_gRM (r := (some 6)) (dX12_ringOf 52) lk_X12_36 sM0 rfl rfl (Z_bipush (dX12_ringOf 53) ⟨by decide, by decide⟩ (Z_iload_n (dX12_ringOf 54) rfl (Z_imul (dX12_ringOf 55) (((h.2 c2).2.2.2 c4).2 c6).2.2.2.2.2.1 (Z_iload (dX12_ringOf 56) rfl (Z_iadd (dX12_ringOf 57) (((h.2 c2).2.2.2 c4).2 c6).2.2.2.2.2.2.1 (Z_ilM (x := (iv 6 (((60 * x2) + x5).toNat))) (dX12_ringOf 58) sM6 (((h.2 c2).2.2.2 c4).2 c6).2.2.2.2.2.2.2.1 rfl (Z_iadd (dX12_ringOf 59) (((h.2 c2).2.2.2 c4).2 c6).2.2.2.2.2.2.2.2.1 (Z_aload_n (dX12_ringOf 60) rfl (Z_gIM (x := (iv 0 5)) (dX12_ringOf 61) lk_X12_20 sM0 (Or.inl rfl) rfl (Z_iadd (dX12_ringOf 62) (((h.2 c2).2.2.2 c4).2 c6).2.2.2.2.2.2.2.2.2.1 (Z_max (dX12_ringOf 63) lk_X12_233 mt_max_s mt_ini mt_max_c (Nat.le_of_ble_eq_true rfl) (Z_istore (dX12_ringOf 64) (Nat.le_of_ble_eq_true rfl) rfl (Z_iinc (dX12_ringOf 65) rfl (Nat.le_of_ble_eq_true rfl) (((h.2 c2).2.2.2 c4).2 c6).2.2.2.2.2.2.2.2.2.2.1 rfl (Z_goto (dX12_ringOf 66) rfl (Z.fg (L' := [vr (some 0), vi x1, vi x2, vi x3, vi (max x4 ((((iv 15 ((400 * x1 + ((x3 + x5) - 8)).toNat)) + (iv 8 ((400 * x1 + ((x3 + x5) - 8)).toNat))) + (iv 6 (((60 * x2) + x5).toNat))) + (iv 0 5))), vi (x5 + 1), vu]) (L := [vr (some 0), vi x1, vi x2, vi x3, vi (max x4 ((((iv 15 ((400 * x1 + ((x3 + x5) - 8)).toNat)) + (iv 8 ((400 * x1 + ((x3 + x5) - 8)).toNat))) + (iv 6 (((60 * x2) + x5).toNat))) + (iv 0 5))), vi (x5 + 1), vi ((x3 + x5) - 8)]) ⟨Or.inl rfl, ⟨Or.inl rfl, ⟨Or.inl rfl, ⟨Or.inl rfl, ⟨Or.inl rfl, ⟨Or.inl rfl, ⟨Or.inr rfl, trivial⟩⟩⟩⟩⟩⟩⟩ (((h.2 c2).2.2.2 c4).2 c6).2.2.2.2.2.2.2.2.2.2.2))))))))))))))))))))))))))))))))))))))))))))))))))))
def ringM (iv v : Nat → Nat → Int) (s x : Int) : Int := rgF (iv 7 s.toNat) (fun k => v 15 (400 * s + k).toNat) (fun k => iv 8 (400 * s + k).toNat) (fun k => iv 6 (60 * x + k).toNat) (iv 0 5) 0 8 (if iv 7 s.toNat = 0 then 0 else v 15 (400 * s + (iv 7 s.toNat - 1)).toNat)
theorem M_ringOf {G : ZG} {d : Nat} {iv : Nat → Nat → Int} {K : Option AV → AH → Prop} {x1 x2 : Int} (h0 : okSide iv x1) (hst : stuckM iv x1 = -1) (hx2 : 0 ≤ x2 ∧ x2 < 10) (hl : ∀ k : Int, 0 ≤ k → k < 8 → 0 ≤ iv 6 (60 * x2 + k).toNat ∧ iv 6 (60 * x2 + k).toNat ≤ 40) (k : ∀ v : Nat → Nat → Int, (∀ i j, i ≠ 15 → ¬ (i = 0 ∧ j = 20) → v i j = iv i j) ∧ leastM iv v x1 → K (some (vi (ringM iv v x1 x2))) (mkM v)) : Z G mX12_ringOf (d + 3) 0 0 0 [vr (some 0), vi x1, vi x2, vu, vu, vu, vu] [] (mkM iv) K := by
  apply sX12_ringOf_0
  refine ⟨h0, hst, ?_⟩
  rintro v ⟨f1, f2⟩
  have kk := k v ⟨f1, f2⟩
  have ub := leastM_ub h0 hst f2
  obtain ⟨g1, g2, g3, g4⟩ := h0
  have e7 : v 7 = iv 7 := by funext j; exact f1 7 j (by omega) (by omega)
  have e8 : v 8 = iv 8 := by funext j; exact f1 8 j (by omega) (by omega)
  have e6 : v 6 = iv 6 := by funext j; exact f1 6 j (by omega) (by omega)
  have e5 : v 0 5 = iv 0 5 := f1 0 5 (by omega) (by omega)
  rw [e7]
  have go : ∀ a, (0 ≤ a ∧ a ≤ 8000) → K (some (vi (rgF (iv 7 x1.toNat) (fun k => v 15 (400 * x1 + k).toNat) (fun k => iv 8 (400 * x1 + k).toNat) (fun k => iv 6 (60 * x2 + k).toNat) (iv 0 5) 0 8 a))) (mkM v) → Z G mX12_ringOf (d + 3) 0 0 37 [vr (some 0), vi x1, vi x2, vi (iv 7 x1.toNat), vi a, vi 0, vu] [] (mkM v) K := by
    intro a ha kk
    refine lp_up (P := fun j a => Z G mX12_ringOf (d + 3) 0 0 37 [vr (some 0), vi x1, vi x2, vi (iv 7 x1.toNat), vi a, vi j, vu] [] (mkM v) K) 8 (fun j a => 0 ≤ j ∧ (0 ≤ a ∧ a ≤ 200000) ∧ K (some (vi (rgF (iv 7 x1.toNat) (fun k => v 15 (400 * x1 + k).toNat) (fun k => iv 8 (400 * x1 + k).toNat) (fun k => iv 6 (60 * x2 + k).toNat) (iv 0 5) j (8 - j).toNat a))) (mkM v)) ?_ ?_ 0 a (by omega) ⟨by omega, by omega, by rw [show ((8 : Int) - 0).toNat = 8 from rfl]; exact kk⟩
    · rintro a ⟨-, -, kk⟩
      apply sX12_ringOf_37
      exact ⟨fun _ => kk, fun h => by omega⟩
    · rintro j a hj ⟨j0, ha, kk⟩ ih
      rw [show (8 - j).toNat = (8 - (j + 1)).toNat + 1 by omega] at kk
      unfold rgF at kk
      apply sX12_ringOf_37
      refine ⟨fun h => by omega, fun _ => ⟨by omega, by omega, fun n => ⟨by omega, ih a ⟨by omega, ha, ?_⟩⟩, fun e => ⟨fun n => by omega, fun _ => ?_⟩⟩⟩
      · rw [if_neg (by omega)] at kk; exact kk
      · have q1 := ub (iv 7 x1.toNat + j - 8) e (by omega)
        have q2 := g4 (iv 7 x1.toNat + j - 8) e (by omega)
        have q3 := hl j j0 hj
        rw [if_pos e] at kk
        rw [e8, e6, e5]
        exact ⟨by omega, by omega, by omega, by omega, by omega, by omega, by omega, by omega, by omega, by omega, by omega, ih _ ⟨by omega, by omega, kk⟩⟩
  unfold ringM at kk
  refine ⟨by omega, fun n => ⟨by omega, by omega, by omega, ?_⟩, fun e => ?_⟩
  · rw [if_neg n] at kk
    exact go _ (ub (iv 7 x1.toNat - 1) (by omega) (by omega)) kk
  · rw [if_pos e] at kk
    exact go 0 (by omega) kk

