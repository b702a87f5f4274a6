/-! ===== a sheet: the public method ===== -/
set_option maxRecDepth 20000 in
theorem sX11_sheet_0 {G : ZG} {d : Nat} {iv : Nat → Nat → Int} {K : Option AV → AH → Prop} {rv : Nat → Nat → Option Nat} {p0 : Nat} {x1 : Int} (hR : RC rv) (ho : isSh p0) (h12 : rv 0 12 = some p0) (h : (0 ≤ x1 ∧ x1 ≤ (iv 0 10) → (Z G mX6_parse (d + 9) 0 0 0 [vr (some p0), vr (some 54), vi x1] [] (mkC iv rv) (fun r A1 => Z G mX11_sheet (d + 10) 0 0 32 [vr (some 0), vi x1, vr (some p0)] (r.toList ++ []) A1 K))) ∧ (¬ (0 ≤ x1 ∧ x1 ≤ (iv 0 10)) → (K (some (vi (-1))) (mkC (iu iv 0 17 1) rv)))) : Z G mX11_sheet (d + 10) 0 0 0 [vr (some 0), vi x1, vu] [] (mkC iv rv) K := (Z_iload_n (dX11_sheet 0) rfl (Z_iconst (dX11_sheet 1) ⟨by decide, by decide⟩ (Z_aload_n (dX11_sheet 2) rfl (Z_gIC (x := (iv 0 10)) (dX11_sheet 3) lk_X11_321 sC0 (Or.inl rfl) rfl (Z_cS (As := [vi x1, vi 0, vi (iv 0 10)]) (S := []) (dX11_sheet 4) lk_X11_109 rfl (Nat.le_of_ble_eq_true rfl) (Nat.le_of_ble_eq_true rfl) (C_within hR ((Z_if_ne (dX11_sheet 5) rfl (fun c1 => (Z_aload_n (dX11_sheet 10) rfl (Z_gRC (r := (some p0)) (dX11_sheet 11) lk_X11_89 sC0 rfl h12 (Z_astore_n (dX11_sheet 12) (Nat.le_of_ble_eq_true rfl) rfl (Z_aload_n (dX11_sheet 13) rfl (Z_aload_n (dX11_sheet 14) rfl (Z_gRC (r := (some 54)) (dX11_sheet 15) lk_X11_78 sC0 rfl (hR 9) (Z_iload_n (dX11_sheet 16) rfl (Z_cVC (As := [vr (some 54), vi x1]) (S := []) (dX11_sheet 17) lk_X11_327 (Sh_sh ho) (by decide) rfl rfl (Nat.le_of_ble_eq_true rfl) (Nat.le_of_ble_eq_true rfl) (h.1 (b01_n.mp c1))))))))))) (fun c2 => (Z_aload_n (dX11_sheet 6) rfl (Z_iconst (dX11_sheet 7) ⟨by decide, by decide⟩ (Z_cVC (As := [vi 1]) (S := []) (dX11_sheet 8) lk_X11_132 sC0 (by decide) rfl rfl (Nat.le_of_ble_eq_true rfl) (Nat.le_of_ble_eq_true rfl) (C_giveNone hR ((Z_ireturn (dX11_sheet 9) rfl (h.2 (b01_0.mp c2)))))))))))))))))
set_option maxRecDepth 20000 in
theorem sX11_sheet_32 {G : ZG} {d : Nat} {iv : Nat → Nat → Int} {K : Option AV → AH → Prop} {rv : Nat → Nat → Option Nat} {o2 p1 : Nat} (hR : RC rv) (h_o2 : isSh o2) (ho1 : isSh p1) (h11 : rv 0 11 = some p1) (h : ((iv o2 12) = 0 → (Z G mX5_forgetMarks (d + 9) 0 0 0 [vr (some 40)] [] (mkC (iu (iu (iu (iu iv 0 10 0) 0 14 (iv o2 12)) 0 15 (iv o2 13)) 0 13 1) (ru (ru rv 0 12 (some p1)) 0 11 (some o2))) (fun r A1 => Z G mX11_sheet (d + 10) 0 0 92 [vr (some 0), vu, vr (some o2)] (r.toList ++ []) A1 K))) ∧ (¬ (iv o2 12) = 0 → (K (some (vi (-1))) (mkC (iu (iu (iu (iu iv 0 10 0) 0 14 (iv o2 12)) 0 15 (iv o2 13)) 0 17 9) rv)))) : Z G mX11_sheet (d + 10) 0 0 32 [vr (some 0), vu, vr (some o2)] [] (mkC iv rv) K := (Z_aload_n (dX11_sheet 18) rfl (Z_iconst (dX11_sheet 19) ⟨by decide, by decide⟩ (Z_putIC (dX11_sheet 20) lk_X11_321 sC0 rfl (Or.inl rfl) (Z_aload_n (dX11_sheet 21) rfl (Z_aload_n (dX11_sheet 22) rfl (Z_gIC (x := (iv o2 12)) (dX11_sheet 23) lk_X11_331 (Sh_sh h_o2) (Or.inl rfl) ((iu_o (by rcases h_o2 with rfl | rfl <;> decide)).trans rfl) (Z_putIC (dX11_sheet 24) lk_X11_92 sC0 rfl (Or.inl rfl) (Z_aload_n (dX11_sheet 25) rfl (Z_aload_n (dX11_sheet 26) rfl (Z_gIC (x := (iv o2 13)) (dX11_sheet 27) lk_X11_332 (Sh_sh h_o2) (Or.inl rfl) ((iu_o (by rcases h_o2 with rfl | rfl <;> decide)).trans ((iu_o (by rcases h_o2 with rfl | rfl <;> decide)).trans rfl)) (Z_putIC (dX11_sheet 28) lk_X11_96 sC0 rfl (Or.inl rfl) (Z_aload_n (dX11_sheet 29) rfl (Z_gIC (x := (iv o2 12)) (dX11_sheet 30) lk_X11_92 sC0 (Or.inl rfl) ((iu_k (by decide)).trans iu_eq) (Z_if_eq (dX11_sheet 31) rfl (fun c1 => (Z_aload_n (dX11_sheet 36) rfl (Z_aload_n (dX11_sheet 37) rfl (Z_gRC (r := (some p1)) (dX11_sheet 38) lk_X11_85 sC0 rfl h11 (Z_putRC (dX11_sheet 39) lk_X11_89 sC0 rfl (Or.inl rfl) (Z_aload_n (dX11_sheet 40) rfl (Z_aload_n (dX11_sheet 41) rfl (Z_putRC (dX11_sheet 42) lk_X11_85 sC0 rfl (Or.inl rfl) (Z_aload_n (dX11_sheet 43) rfl (Z_iconst (dX11_sheet 44) ⟨by decide, by decide⟩ (Z_putZC (dX11_sheet 45) lk_X11_333 sC0 rfl (Or.inr rfl) (Or.inl rfl) (Z_aload_n (dX11_sheet 46) rfl (Z_gRC (r := (some 40)) (dX11_sheet 47) lk_X11_74 sC0 rfl ((ru_k (by decide)).trans ((ru_k (by decide)).trans (hR 8))) (Z_cVC (As := []) (S := []) (dX11_sheet 48) lk_X11_337 sC40 (by decide) rfl rfl (Nat.le_of_ble_eq_true rfl) (Nat.le_of_ble_eq_true rfl) (h.1 c1))))))))))))))) (fun c2 => (Z_aload_n (dX11_sheet 32) rfl (Z_bipush (dX11_sheet 33) ⟨by decide, by decide⟩ (Z_cVC (As := [vi 9]) (S := []) (dX11_sheet 34) lk_X11_132 sC0 (by decide) rfl rfl (Nat.le_of_ble_eq_true rfl) (Nat.le_of_ble_eq_true rfl) (C_giveNone hR ((Z_ireturn (dX11_sheet 35) rfl (h.2 c2))))))))))))))))))))))
set_option maxRecDepth 20000 in
theorem sX11_sheet_92 {G : ZG} {d : Nat} {iv : Nat → Nat → Int} {K : Option AV → AH → Prop} {rv : Nat → Nat → Option Nat} {o2 : Nat} (hR : RC rv) (h_o2 : isSh o2) (h : K (some (vi (iv o2 11))) (mkC (iu iv 0 17 0) rv)) : Z G mX11_sheet (d + 10) 0 0 92 [vr (some 0), vu, vr (some o2)] [] (mkC iv rv) K := (Z_aload_n (dX11_sheet 49) rfl (Z_aload_n (dX11_sheet 50) rfl (Z_gIC (x := (iv o2 11)) (dX11_sheet 51) lk_X11_340 (Sh_sh h_o2) (Or.inl rfl) rfl (Z_cVC (As := [vi (iv o2 11)]) (S := []) (dX11_sheet 52) lk_X11_166 sC0 (by decide) rfl rfl (Nat.le_of_ble_eq_true rfl) (Nat.le_of_ble_eq_true rfl) (C_give hR ((Z_ireturn (dX11_sheet 53) rfl h)))))))
set_option maxRecDepth 20000 in
theorem sX5_forgetMarks_0 {G : ZG} {d : Nat} {iv : Nat → Nat → Int} {K : Option AV → AH → Prop} {rv : Nat → Nat → Option Nat} {a : Nat} (hR : RC rv) (h3 : rv 40 3 = some a) (sa : ShC[a]? = some (.inr (0, 8))) (h : K none (mkC (ifill iv a 0 8 (-1)) rv)) : Z G mX5_forgetMarks (d + 1) 0 0 0 [vr (some 40)] [] (mkC iv rv) K := (Z_aload_n (dX5_forgetMarks 0) rfl (Z_gRC (r := (some a)) (dX5_forgetMarks 1) lk_X5_27 sC40 rfl h3 (Z_iconst (dX5_forgetMarks 2) ⟨by decide, by decide⟩ (Z_cS (As := [vr (some a), vi (-1)]) (S := []) (dX5_forgetMarks 3) lk_X5_40 rfl (Nat.le_of_ble_eq_true rfl) (Nat.le_of_ble_eq_true rfl) (C_fillI hR sa (by decide) ((Z_return (dX5_forgetMarks 4) rfl h)))))))
def cpS (m : Nat → Nat → Int) (k : Nat) : Nat → Nat → Int := fun i j => if 30 ≤ i ∧ i ≤ 41 ∧ j < k then m 42 (12 * j + (i - 30)) else m i j
def cpN (m : Nat → Nat → Int) (k : Nat) : Nat → Nat → Int := fun i j => if i = 43 ∧ j < k then m 44 j else if i = 47 ∧ j < k then -1 else m i j
theorem cpS_s {m : Nat → Nat → Int} {k : Nat} : (iu (iu (iu (iu (iu (iu (iu (iu (iu (iu (iu (iu (cpS m k) 30 k (m 42 (12 * k + 0))) 31 k (m 42 (12 * k + 1))) 32 k (m 42 (12 * k + 2))) 33 k (m 42 (12 * k + 3))) 34 k (m 42 (12 * k + 4))) 35 k (m 42 (12 * k + 5))) 36 k (m 42 (12 * k + 6))) 37 k (m 42 (12 * k + 7))) 38 k (m 42 (12 * k + 8))) 39 k (m 42 (12 * k + 9))) 40 k (m 42 (12 * k + 10))) 41 k (m 42 (12 * k + 11))) = cpS m (k + 1) := by
  funext i j
  simp only [iu_ap]
  unfold cpS
  by_cases hj : j = k
  · subst hj
    by_cases hi : 30 ≤ i ∧ i ≤ 41
    · rw [if_pos (c := 30 ≤ i ∧ i ≤ 41 ∧ j < j + 1) (by omega)]
      have : i = 30 ∨ i = 31 ∨ i = 32 ∨ i = 33 ∨ i = 34 ∨ i = 35 ∨ i = 36 ∨ i = 37 ∨ i = 38 ∨ i = 39 ∨ i = 40 ∨ i = 41 := by omega
      rcases this with e | e | e | e | e | e | e | e | e | e | e | e <;> subst e <;> simp
    · rw [if_neg (c := 30 ≤ i ∧ i ≤ 41 ∧ j < j + 1) (by omega)]
      have n : ∀ t : Nat, 30 ≤ t → t ≤ 41 → ¬ (i = t ∧ j = j) := fun t a b e => hi (by omega)
      rw [if_neg (n 41 (by decide) (by decide)), if_neg (n 40 (by decide) (by decide)), if_neg (n 39 (by decide) (by decide)), if_neg (n 38 (by decide) (by decide)), if_neg (n 37 (by decide) (by decide)), if_neg (n 36 (by decide) (by decide)), if_neg (n 35 (by decide) (by decide)), if_neg (n 34 (by decide) (by decide)), if_neg (n 33 (by decide) (by decide)), if_neg (n 32 (by decide) (by decide)), if_neg (n 31 (by decide) (by decide)), if_neg (n 30 (by decide) (by decide)), if_neg (by omega)]
  · have n : ∀ t : Nat, ¬ (i = t ∧ j = k) := fun t e => hj e.2
    rw [if_neg (n _), if_neg (n _), if_neg (n _), if_neg (n _), if_neg (n _), if_neg (n _), if_neg (n _), if_neg (n _), if_neg (n _), if_neg (n _), if_neg (n _), if_neg (n _)]
    by_cases h : 30 ≤ i ∧ i ≤ 41 ∧ j < k
    · rw [if_pos h, if_pos (by omega)]
    · rw [if_neg h, if_neg (by omega)]
theorem cpN_s {m : Nat → Nat → Int} {k : Nat} : iu (iu (cpN m k) 43 k (m 44 k)) 47 k (-1) = cpN m (k + 1) := by
  funext i j
  simp only [iu_ap]
  unfold cpN
  by_cases hj : j = k
  · subst hj
    by_cases h43 : i = 43
    · subst h43; simp
    · by_cases h47 : i = 47
      · subst h47; simp
      · simp [h43, h47]
  · have n : ∀ t : Nat, ¬ (i = t ∧ j = k) := fun t e => hj e.2
    rw [if_neg (n _), if_neg (n _)]
    by_cases h : i = 43 ∧ j < k
    · rw [if_pos h, if_pos (by omega)]
    · rw [if_neg h, if_neg (c := i = 43 ∧ j < k + 1) (by omega)]
      by_cases h' : i = 47 ∧ j < k
      · rw [if_pos h', if_pos (by omega)]
      · rw [if_neg h', if_neg (by omega)]
/-- the model's state behind a sheet without a fault -/
def shV (m : Nat → Nat → Int) : Nat → Nat → Int := iu (iu (cpN (iu (cpS (iu (iu m 0 49 (m 0 51)) 0 68 (m 0 70)) (m 0 70).toNat) 0 69 (m 0 71)) 8) 0 52 1) 0 0 0
theorem M_sheetE {G : ZG} {d : Nat} {m : Nat → Nat → Int} {K : Option AV → AH → Prop} (h70 : m 0 51 = 0 → 0 ≤ m 0 70 ∧ m 0 70 ≤ 60) (h51 : 0 ≤ m 0 51) (kb : ¬ m 0 51 = 0 → K (some (vi (-1))) (mkM (iu (iu m 0 49 (m 0 51)) 0 0 9))) (kg : m 0 51 = 0 → K (some (vi (m 0 70))) (mkM (shV m))) : EZ G d K m := by
  unfold EZ
  apply sX12_sheet_e
  refine ⟨fun z => ?_, fun z => kb (by omega)⟩
  have h70 := h70 (by omega)
  have kg := kg (by omega)
  unfold shV at kg
  have e70 : (iu (iu m 0 49 (m 0 51)) 0 68 (m 0 70)) 0 68 = m 0 70 := iu_eq
  have e71 : (iu (iu m 0 49 (m 0 51)) 0 68 (m 0 70)) 0 71 = m 0 71 := by rw [iu_k (by decide), iu_k (by decide)]
  generalize (iu (iu m 0 49 (m 0 51)) 0 68 (m 0 70)) = w at *
  refine lp_up (P := fun q v => Z G mX12_sheet (d + 8) 0 0 183 [vr (some 0), vu, vu, vi q] [] (mkM v) K) (m 0 70) (fun q v => 0 ≤ q ∧ v = cpS w q.toNat) ?_ ?_ 0 w (by omega) ⟨by omega, by funext i j; unfold cpS; rw [if_neg (by omega)]⟩
  · rintro v ⟨-, ev⟩
    have v0 : ∀ j, v 0 j = w 0 j := fun j => by rw [ev]; unfold cpS; rw [if_neg (by omega)]
    apply sX12_sheet_183
    rw [v0, v0, e70, e71]
    refine ⟨fun _ => ?_, fun z => by omega⟩
    rw [← ev] at kg
    generalize hw1 : iu v 0 69 (m 0 71) = w1 at *
    refine lp_up (P := fun q u => Z G mX12_sheet (d + 8) 0 0 417 [vr (some 0), vu, vu, vi q] [] (mkM u) K) 8 (fun q u => 0 ≤ q ∧ u = cpN w1 q.toNat) ?_ ?_ 0 w1 (by omega) ⟨by omega, by funext i j; unfold cpN; rw [if_neg (by omega), if_neg (by omega)]⟩
    · rintro u ⟨-, eu⟩
      apply sX12_sheet_417
      refine ⟨fun _ => ?_, fun z => by omega⟩
      have u68 : u 0 68 = m 0 70 := by rw [eu]; unfold cpN; rw [if_neg (by omega), if_neg (by omega), ← hw1, iu_k (by decide), v0]; exact e70
      rw [u68, eu]
      exact kg
    · rintro q u hq ⟨q0, eu⟩ ih
      apply sX12_sheet_417
      refine ⟨fun z => by omega, fun _ => ⟨by omega, by omega, by omega, by omega, ih _ ⟨by omega, ?_⟩⟩⟩
      have e44 : u 44 q.toNat = w1 44 q.toNat := by rw [eu]; unfold cpN; rw [if_neg (by omega), if_neg (by omega)]
      rw [e44, eu, cpN_s, show q.toNat + 1 = (q + 1).toNat by omega]
  · rintro q v hq ⟨q0, ev⟩ ih
    have v0 : ∀ j, v 0 j = w 0 j := fun j => by rw [ev]; unfold cpS; rw [if_neg (by omega)]
    have v42 : ∀ t : Int, 0 ≤ t → v 42 (12 * q + t).toNat = w 42 (12 * q.toNat + t.toNat) := fun t t0 => by
      rw [ev]; unfold cpS; rw [if_neg (by omega), show (12 * q + t).toNat = 12 * q.toNat + t.toNat by omega]
    apply sX12_sheet_183
    rw [v0, e70]
    refine ⟨fun z => by omega, fun _ => ?_⟩
    rw [v42 0 (by omega), v42 1 (by omega), v42 2 (by omega), v42 3 (by omega), v42 4 (by omega), v42 5 (by omega), v42 6 (by omega), v42 7 (by omega), v42 8 (by omega), v42 9 (by omega), v42 10 (by omega), v42 11 (by omega)]
    refine ⟨by omega, by omega, by omega, by omega, by omega, by omega, by omega, by omega, by omega, by omega, by omega, by omega, by omega, by omega, by omega, by omega, by omega, by omega, by omega, by omega, by omega, by omega, by omega, by omega, by omega, by omega, by omega, by omega, by omega, by omega, by omega, by omega, by omega, by omega, by omega, by omega, by omega, by omega, by omega, by omega, by omega, by omega, by omega, by omega, by omega, by omega, by omega, by omega, by omega, ih _ ⟨by omega, ?_⟩⟩
    rw [ev]
    have := cpS_s (m := w) (k := q.toNat)
    rw [show q.toNat + 1 = (q + 1).toNat by omega] at this
    exact this

