/-! ===== a sheet: the model's beginning ===== -/
def tcp (m : Nat → Nat → Int) (k : Nat) : Nat → Nat → Int := fun i j => if i = 29 ∧ j < k then m 28 j else m i j
def shB (m : Nat → Nat → Int) (n : Int) : Nat → Nat → Int := (iu (iu (iu (iu (iu (iu (iu (tcp (iu m 0 44 n) n.toNat) 0 43 0) 0 51 0) 0 50 (-1)) 0 47 0) 0 70 0) 0 71 0) 0 74 0)
theorem shB_f {m : Nat → Nat → Int} {n : Int} : shB m n 0 44 = n ∧ shB m n 0 47 = 0 ∧ shB m n 0 51 = 0 ∧ shB m n 0 50 = -1 ∧ shB m n 0 70 = 0 ∧ shB m n 0 71 = 0 ∧ shB m n 0 74 = 0 ∧ shB m n 0 43 = 0 ∧ (∀ j, shB m n 29 j = if j < n.toNat then m 28 j else m 29 j) ∧ (∀ i, i ≠ 0 → i ≠ 29 → shB m n i = m i) ∧ (∀ j, j ≠ 43 → j ≠ 44 → j ≠ 47 → j ≠ 50 → j ≠ 51 → j ≠ 70 → j ≠ 71 → j ≠ 74 → shB m n 0 j = m 0 j) := by
  have t0 : ∀ j, tcp (iu m 0 44 n) n.toNat 0 j = iu m 0 44 n 0 j := fun j => by unfold tcp; rw [if_neg (by omega)]
  unfold shB
  refine ⟨?_, ?_, ?_, ?_, ?_, ?_, ?_, ?_, ?_, ?_, ?_⟩
  · rw [iu_k (by decide), iu_k (by decide), iu_k (by decide), iu_k (by decide), iu_k (by decide), iu_k (by decide), iu_k (by decide), t0]; exact iu_eq
  · rw [iu_k (by decide), iu_k (by decide), iu_k (by decide)]; exact iu_eq
  · rw [iu_k (by decide), iu_k (by decide), iu_k (by decide), iu_k (by decide), iu_k (by decide)]; exact iu_eq
  · rw [iu_k (by decide), iu_k (by decide), iu_k (by decide), iu_k (by decide)]; exact iu_eq
  · rw [iu_k (by decide), iu_k (by decide)]; exact iu_eq
  · rw [iu_k (by decide)]; exact iu_eq
  · exact iu_eq
  · rw [iu_k (by decide), iu_k (by decide), iu_k (by decide), iu_k (by decide), iu_k (by decide), iu_k (by decide)]; exact iu_eq
  · intro j
    rw [iu_o (by decide), iu_o (by decide), iu_o (by decide), iu_o (by decide), iu_o (by decide), iu_o (by decide), iu_o (by decide)]
    unfold tcp
    rw [iu_o (by decide), iu_o (by decide)]
    by_cases h : j < n.toNat
    · rw [if_pos ⟨rfl, h⟩, if_pos h]
    · rw [if_neg (fun z => h z.2), if_neg h]
  · intro i a b
    funext j
    rw [iu_o a, iu_o a, iu_o a, iu_o a, iu_o a, iu_o a, iu_o a]
    unfold tcp
    rw [if_neg (fun z => b z.1), iu_o a]
  · intro j a b c e f g h i
    rw [iu_k i, iu_k h, iu_k g, iu_k c, iu_k e, iu_k f, iu_k a, t0, iu_k b]
theorem M_sheetB {G : ZG} {d : Nat} {m : Nat → Nat → Int} {K : Option AV → AH → Prop} {x1 : Int} (hb : bOK (m 28)) (hb9 : bOK (m 29)) (h43 : m 0 43 ≤ 600) (kn : ¬ (0 ≤ x1 ∧ x1 ≤ m 0 43) → K (some (vi (-1))) (mkM (iu m 0 0 1))) (ky : 0 ≤ x1 ∧ x1 ≤ m 0 43 → CZ G d K (nx (shB m x1))) : Z G mX12_sheet (d + 8) 0 0 0 [vr (some 0), vi x1, vu, vu] [] (mkM m) K := by
  apply sX12_sheet_b
  refine ⟨fun z => kn (by omega), fun z => ⟨fun z2 => ?_, fun z2 => kn (by omega)⟩⟩
  have ky := ky ⟨z, z2⟩
  obtain ⟨s44, s47, s51, -, s70, s71, -, -, s29, -, -⟩ := shB_f (m := m) (n := x1)
  have w28 : ∀ j, iu m 0 44 x1 28 j = m 28 j := fun j => iu_o (by decide)
  have ky1 := ky.1 (by rw [nx_f.2 51 (by decide) (by decide) (by decide) (by decide)]; exact s51) ⟨⟨by rw [nx_f.2 70 (by decide) (by decide) (by decide) (by decide), s70]; omega, fun i a b => by rw [nx_f.2 70 (by decide) (by decide) (by decide) (by decide), s70] at b; omega⟩, by rw [nx_f.2 71 (by decide) (by decide) (by decide) (by decide), s71]; omega, fun i a b => by rw [nx_f.2 70 (by decide) (by decide) (by decide) (by decide), s70] at b; omega⟩
  clear s70 s71 s51
  unfold shB at s44 s47 s29 ky1
  generalize iu m 0 44 x1 = w at *
  refine lp_up (P := fun q v => Z G mX12_sheet (d + 8) 0 0 25 [vr (some 0), vi x1, vi q, vu] [] (mkM v) K) x1 (fun q v => 0 ≤ q ∧ v = tcp w q.toNat) ?_ ?_ 0 w (by omega) ⟨by omega, by funext i j; unfold tcp; rw [if_neg (by omega)]⟩
  · rintro v ⟨-, ev⟩
    subst ev
    apply sX12_sheet_25
    refine ⟨fun _ => ?_, fun z => by omega⟩
    rw [s44, s47]
    refine ⟨by omega, by omega, ?_, ky1⟩
    intro k k0 k1
    rw [s29]
    split
    · exact hb k k0 k1
    · exact hb9 k k0 k1
  · rintro q v hq ⟨q0, ev⟩ ih
    subst ev
    have e28 : tcp w q.toNat 28 q.toNat = m 28 q.toNat := by unfold tcp; rw [if_neg (by omega)]; exact w28 _
    apply sX12_sheet_25
    rw [e28]
    refine ⟨fun z => by omega, fun _ => ⟨by omega, by omega, hb q (by omega) (by omega), by omega, ih _ ⟨by omega, ?_⟩⟩⟩
    funext i j
    rw [iu_ap]
    unfold tcp
    by_cases h : i = 29 ∧ j = q.toNat
    · rw [if_pos h, if_pos (by omega), h.2, w28]
    · rw [if_neg h]
      by_cases h' : i = 29 ∧ j < q.toNat
      · rw [if_pos h', if_pos (by omega)]
      · rw [if_neg h', if_neg (by omega)]

