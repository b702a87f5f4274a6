/-! ===== falling ===== -/
/-- what the fall has found so far: the best of those below a part -/
def flI (n rg : Int) (pl : Int → Int) (aim r p b : Int) : Prop := ∀ q : Int, 0 ≤ q → q < p → q % 8 = r → zabs (pO n rg pl b - aim) ≤ zabs (pO n rg pl q - aim) ∧ (zabs (pO n rg pl q - aim) = zabs (pO n rg pl b - aim) → b ≤ q)
theorem flI_put {n rg : Int} {pl : Int → Int} {aim r p b : Int} (h : flI n rg pl aim r p b) (hp : 0 ≤ p ∧ p % 8 = r) (c : zabs (pO n rg pl p - aim) < zabs (pO n rg pl b - aim) ∨ (zabs (pO n rg pl p - aim) = zabs (pO n rg pl b - aim) ∧ p < b)) : flI n rg pl aim r (p + 8) p := by
  intro q a e f
  by_cases g : q = p
  · subst g; exact ⟨Int.le_refl _, fun _ => Int.le_refl _⟩
  · have := h q a (by omega) f
    refine ⟨by omega, fun z => by omega⟩
theorem flI_no {n rg : Int} {pl : Int → Int} {aim r p b : Int} (h : flI n rg pl aim r p b) (hp : 0 ≤ p ∧ p % 8 = r) (c : zabs (pO n rg pl b - aim) < zabs (pO n rg pl p - aim) ∨ (zabs (pO n rg pl p - aim) = zabs (pO n rg pl b - aim) ∧ b ≤ p)) : flI n rg pl aim r (p + 8) b := by
  intro q a e f
  by_cases g : q = p
  · subst g; exact ⟨by omega, fun z => by omega⟩
  · exact h q a (by omega) f
theorem C_fallen {G : ZG} {d : Nat} {iv : Nat → Nat → Int} {K : Option AV → AH → Prop} {rv : Nat → Nat → Option Nat} {o1 : Nat} {x2 x3 x4 : Int} (hR : RC rv) (h1 : isSd o1) (hn : 0 ≤ iv o1 4 ∧ iv o1 4 ≤ 400) (hp : ∀ k : Int, 0 ≤ k → k < iv o1 4 → 0 ≤ iv (o1 + 3) k.toNat ∧ iv (o1 + 3) k.toNat ≤ 200000) (hr : iv o1 5 = -1 ∨ (0 ≤ x2 ∧ x2 ≤ 200000)) (h3 : 0 ≤ x3 ∧ x3 < alN (iv o1 4) (iv o1 5)) (h4 : -400 ≤ x4 ∧ x4 ≤ 400) (k : ∀ b : Int, isF (iv o1 4) (iv o1 5) x2 (fun k => iv (o1 + 3) k.toNat) x3 x4 b → K (some (vi b)) (mkC iv rv)) : Z G mX2_fallen (d + 1) 0 0 0 [vr (some 36), vr (some o1), vi x2, vi x3, vi x4, vu, vu, vu, vu, vu, vu] [] (mkC iv rv) K := by
  have rr : ∀ q : Int, 0 ≤ q → q < alN (iv o1 4) (iv o1 5) → 0 ≤ pO (iv o1 4) x2 (fun k => iv (o1 + 3) k.toNat) q ∧ pO (iv o1 4) x2 (fun k => iv (o1 + 3) k.toNat) q ≤ 200000 := by
    intro q a b
    refine pO_r hp ?_ a
    unfold alN at b
    rcases hr with e | e
    · rw [if_pos e] at b; exact Or.inr b
    · exact Or.inl e
  have r3 := rr x3 h3.1 h3.2
  have e0 := zabs_n (pO (iv o1 4) x2 (fun k => iv (o1 + 3) k.toNat) x3) x4
  have tm : x3.tmod 8 = x3 % 8 := by rw [Int.tmod_eq_emod_of_nonneg h3.1]
  have ar : alN (iv o1 4) (iv o1 5) ≤ 408 := by unfold alN; split <;> omega
  have go : Z G mX2_fallen (d + 1) 0 0 35 [vr (some 36), vr (some o1), vi x2, vi x3, vi x4, vi (pO (iv o1 4) x2 (fun k => iv (o1 + 3) k.toNat) x3 + x4), vi (alN (iv o1 4) (iv o1 5)), vu, vu, vu, vu] [] (mkC iv rv) K := by
    apply sX2_fallen_35 hR h1
    refine ⟨by omega, ?_⟩
    rw [tm]
    refine lp_m (σ := Int × Int × Int) (P := fun s => Z G mX2_fallen (d + 1) 0 0 51 [vr (some 36), vr (some o1), vi x2, vu, vu, vi (pO (iv o1 4) x2 (fun k => iv (o1 + 3) k.toNat) x3 + x4), vi (alN (iv o1 4) (iv o1 5)), vi s.1, vi s.2.1, vi s.2.2, vu] [] (mkC iv rv) K) (fun s => (alN (iv o1 4) (iv o1 5) - s.2.2).toNat) (fun s => (0 ≤ s.1 ∧ s.1 < alN (iv o1 4) (iv o1 5) ∧ s.1 % 8 = x3 % 8) ∧ (0 ≤ s.2.2 ∧ s.2.2 % 8 = x3 % 8) ∧ s.2.1 = zabs (pO (iv o1 4) x2 (fun k => iv (o1 + 3) k.toNat) s.1 - (pO (iv o1 4) x2 (fun k => iv (o1 + 3) k.toNat) x3 + x4)) ∧ flI (iv o1 4) x2 (fun k => iv (o1 + 3) k.toNat) (pO (iv o1 4) x2 (fun k => iv (o1 + 3) k.toNat) x3 + x4) (x3 % 8) s.2.2 s.1) ?_ (x3, zabs x4, x3 % 8) ⟨⟨h3.1, h3.2, rfl⟩, by dsimp only; omega, e0.symm, fun q a b c => by dsimp only at b; omega⟩
    rintro ⟨b, off, p⟩ ⟨hb, hp2, ho, hI⟩ ih
    dsimp only at *
    subst ho
    generalize hA : pO (iv o1 4) x2 (fun k => iv (o1 + 3) k.toNat) x3 + x4 = aim at *
    apply sX2_fallen_51 hR h1
    refine ⟨fun z => k b ⟨hb, fun q a c e => ?_⟩, fun z => ?_⟩
    · rw [hA]
      exact hI q a (by omega) e
    · have rp := rr p hp2.1 z
      have put : ∀ (c : zabs (pO (iv o1 4) x2 (fun k => iv (o1 + 3) k.toNat) p - aim) < zabs (pO (iv o1 4) x2 (fun k => iv (o1 + 3) k.toNat) b - aim) ∨ (zabs (pO (iv o1 4) x2 (fun k => iv (o1 + 3) k.toNat) p - aim) = zabs (pO (iv o1 4) x2 (fun k => iv (o1 + 3) k.toNat) b - aim) ∧ p < b)), _ := fun c => ih (p, zabs (pO (iv o1 4) x2 (fun k => iv (o1 + 3) k.toNat) p - aim), p + 8) ⟨⟨hp2.1, z, hp2.2⟩, by dsimp only; omega, rfl, flI_put hI hp2 c⟩ (by dsimp only; omega)
      have no := fun c => ih (b, zabs (pO (iv o1 4) x2 (fun k => iv (o1 + 3) k.toNat) b - aim), p + 8) ⟨hb, by dsimp only; omega, rfl, flI_no (b := b) hI hp2 c⟩ (by dsimp only; omega)
      refine ⟨hp2.1, hn.2, by omega, by omega, fun c => ⟨by omega, put (Or.inl c)⟩, fun c => ⟨fun e => ⟨by omega, no (Or.inl (by omega))⟩, fun e => ⟨fun w => ⟨by omega, no (Or.inr ⟨e, w⟩)⟩, fun w => ⟨by omega, put (Or.inr ⟨e, w⟩)⟩⟩⟩⟩
  apply sX2_fallen_0 hR h1
  unfold alN at go
  refine ⟨h3.1, hn.2, by omega, fun z => ?_, fun z => ⟨by omega, ?_⟩⟩
  · rw [if_pos (Classical.not_not.mp z)] at go; exact go
  · rw [if_neg z] at go; exact go
theorem M_fall {G : ZG} {d : Nat} {iv : Nat → Nat → Int} {K : Option AV → AH → Prop} {x1 x2 x3 : Int} (h1 : 0 ≤ x1 ∧ x1 < 2) (hn : 0 ≤ iv 7 x1.toNat ∧ iv 7 x1.toNat ≤ 400) (hp : ∀ k : Int, 0 ≤ k → k < iv 7 x1.toNat → 0 ≤ iv 15 (400 * x1 + k).toNat ∧ iv 15 (400 * x1 + k).toNat ≤ 200000) (hr : iv 10 x1.toNat = -1 ∨ (0 ≤ iv 0 38 ∧ iv 0 38 ≤ 200000)) (h3 : 0 ≤ x2 ∧ x2 < alN (iv 7 x1.toNat) (iv 10 x1.toNat)) (h4 : -400 ≤ x3 ∧ x3 ≤ 400) (k : ∀ b : Int, isF (iv 7 x1.toNat) (iv 10 x1.toNat) (iv 0 38) (fun k => iv 15 (400 * x1 + k).toNat) x2 x3 b → K (some (vi b)) (mkM iv)) : Z G mX12_fall (d + 2) 0 0 0 [vr (some 0), vi x1, vi x2, vi x3, vu, vu, vu, vu] [] (mkM iv) K := by
  have rr : ∀ q : Int, 0 ≤ q → q < alN (iv 7 x1.toNat) (iv 10 x1.toNat) → 0 ≤ pO (iv 7 x1.toNat) (iv 0 38) (fun k => iv 15 (400 * x1 + k).toNat) q ∧ pO (iv 7 x1.toNat) (iv 0 38) (fun k => iv 15 (400 * x1 + k).toNat) q ≤ 200000 := by
    intro q a b
    refine pO_r hp ?_ a
    unfold alN at b
    rcases hr with e | e
    · rw [if_pos e] at b; exact Or.inr b
    · exact Or.inl e
  have r3 := rr x2 h3.1 h3.2
  have tm : x2.tmod 8 = x2 % 8 := by rw [Int.tmod_eq_emod_of_nonneg h3.1]
  have ar : alN (iv 7 x1.toNat) (iv 10 x1.toNat) ≤ 408 := by unfold alN; split <;> omega
  have go : Z G mX12_fall (d + 2) 0 0 25 [vr (some 0), vi x1, vi x2, vi x3, vi (alN (iv 7 x1.toNat) (iv 10 x1.toNat)), vu, vu, vu] [] (mkM iv) K := by
    apply sX12_fall_25
    refine ⟨h1, h3.1, hn.2, by omega, ?_⟩
    rw [tm]
    refine lp_m (σ := Int × Int) (P := fun s => Z G mX12_fall (d + 2) 0 0 44 [vr (some 0), vi x1, vu, vu, vi (alN (iv 7 x1.toNat) (iv 10 x1.toNat)), vi (pO (iv 7 x1.toNat) (iv 0 38) (fun k => iv 15 (400 * x1 + k).toNat) x2 + x3), vi s.1, vi s.2] [] (mkM iv) K) (fun s => (alN (iv 7 x1.toNat) (iv 10 x1.toNat) - s.2).toNat) (fun s => (0 ≤ s.2 ∧ s.2 % 8 = x2 % 8) ∧ ((s.1 = -1 ∧ s.2 = x2 % 8) ∨ ((0 ≤ s.1 ∧ s.1 < alN (iv 7 x1.toNat) (iv 10 x1.toNat) ∧ s.1 % 8 = x2 % 8) ∧ s.1 < s.2 ∧ flI (iv 7 x1.toNat) (iv 0 38) (fun k => iv 15 (400 * x1 + k).toNat) (pO (iv 7 x1.toNat) (iv 0 38) (fun k => iv 15 (400 * x1 + k).toNat) x2 + x3) (x2 % 8) s.2 s.1))) ?_ (-1, x2 % 8) ⟨by dsimp only; omega, Or.inl ⟨rfl, rfl⟩⟩
    rintro ⟨b, p⟩ ⟨hp2, hI⟩ ih
    dsimp only at *
    generalize hA : pO (iv 7 x1.toNat) (iv 0 38) (fun k => iv 15 (400 * x1 + k).toNat) x2 + x3 = aim at *
    apply sX12_fall_44
    rcases hI with ⟨e1, e2⟩ | ⟨hb, lt, hI⟩
    · refine ⟨fun z => by omega, fun z => ⟨fun _ => ⟨by omega, ih (p, p + 8) ⟨by dsimp only; omega, Or.inr ⟨⟨hp2.1, z, hp2.2⟩, by dsimp only; omega, fun q a c e => ?_⟩⟩ (by dsimp only; omega)⟩, fun n => absurd e1 n⟩⟩
      dsimp only at *
      have : q = p := by omega
      subst this
      exact ⟨Int.le_refl _, fun _ => Int.le_refl _⟩
    · refine ⟨fun z => k b ⟨hb, fun q a c e => ?_⟩, fun z => ⟨fun e => by omega, fun _ => ?_⟩⟩
      · rw [hA]
        exact hI q a (by omega) e
      · have rp := rr p hp2.1 z
        have rb := rr b hb.1 hb.2.1
        exact ⟨h1, hp2.1, hn.2, by omega, by omega, h1, hb.1, hn.2, by omega, by omega, fun c => ⟨by omega, ih (b, p + 8) ⟨by dsimp only; omega, Or.inr ⟨hb, by dsimp only; omega, flI_no (b := b) hI hp2 (by omega)⟩⟩ (by dsimp only; omega)⟩, fun c => ⟨by omega, ih (p, p + 8) ⟨by dsimp only; omega, Or.inr ⟨⟨hp2.1, z, hp2.2⟩, by dsimp only; omega, flI_put hI hp2 (Or.inl c)⟩⟩ (by dsimp only; omega)⟩⟩
  apply sX12_fall_0
  unfold alN at go
  refine ⟨by omega, by omega, fun z => ⟨by omega, ?_⟩, fun z => ⟨by omega, ?_⟩⟩
  · rw [if_neg z] at go; exact go
  · rw [if_pos z] at go; rw [Int.add_zero]; exact go

