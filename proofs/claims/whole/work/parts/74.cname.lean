/-! ===== reading in step: a name, the class ===== -/
theorem C_isName {G : ZG} {d : Nat} {c m : Nat → Nat → Int} {K : Option AV → AH → Prop} {rv : Nat → Nat → Option Nat} {o0 : Nat} {x1 : Int} (hR : RC rv) (ho : isSh o0) (ht : rv o0 4 = some 54) (h : PR o0 c m) (h2 : m 0 45 = 2) (hx : 0 ≤ x1 ∧ x1 < m 0 71) (ky : m 44 x1.toNat = nmP m → K (some (vi 1)) (mkC c rv)) (kn : ¬ m 44 x1.toNat = nmP m → K (some (vi 0)) (mkC c rv)) : Z G mX6_isName d 0 0 0 [vr (some o0), vi x1, vu] [] (mkC c rv) K := by
  obtain ⟨pt, -, pn, -⟩ := h
  obtain ⟨nr, nl, ne⟩ := pn.2.2 x1 hx.1 hx.2
  have n8 := pn.2.1
  have e6 := pt.2.2.2.2.1
  have e8 := pt.2.2.2.2.2.1
  have tr := pt.2.1.1
  have eq := pt.2.2.2.1
  have tl := (pt.2.2.2.2.2.2.2.2.2 h2).2
  rw [ne] at ky kn
  have inj := pk_inj (b := m 29) (a := c (o0 + 62) x1.toNat) (a' := m 0 46) (c (o0 + 63) x1.toNat).toNat (m 0 47 - m 0 46).toNat (fun j a b => nl j a (by omega)) (fun j a b => tl j a (by omega))
  apply sX6_isName_0 hR ho ht
  rw [e6, e8]
  refine ⟨by omega, by omega, fun el => ?_, fun n => kn (fun z => ?_)⟩
  · refine lp_up (P := fun x (_ : Unit) => Z G mX6_isName d 0 0 22 [vr (some o0), vi x1, vi x] [] (mkC c rv) K) (c (o0 + 63) x1.toNat) (fun x _ => 0 ≤ x ∧ ∀ j : Nat, (j : Int) < x → m 29 (c (o0 + 62) x1.toNat + j).toNat = m 29 (m 0 46 + j).toNat) ?_ ?_ 0 () (by omega) ⟨by omega, fun j q => by omega⟩
    · rintro - ⟨-, q⟩
      apply sX6_isName_22 hR ho ht
      refine ⟨by omega, fun _ => ky ?_, fun z => by omega⟩
      unfold nmP
      rw [← el]
      exact pk_cg _ (fun j z => q j (by omega))
    · rintro x - hx2 ⟨x0, q⟩ ih
      apply sX6_isName_22 hR ho ht
      rw [e8, eq (c (o0 + 62) x1.toNat + x) (by omega) (by omega), eq (m 0 46 + x) (by omega) (by omega)]
      refine ⟨by omega, fun z => by omega, fun _ => ⟨by omega, by omega, by omega, by omega, by omega, fun e => ⟨by omega, ih () ⟨by omega, fun j z => ?_⟩⟩, fun e => kn (fun z => e ?_)⟩⟩
      · by_cases g : (j : Int) = x
        · rw [g]; exact e
        · exact q j (by omega)
      · have := (inj z).2 x.toNat (by omega)
        rw [show ((x.toNat : Nat) : Int) = x by omega] at this
        exact this
  · have := (inj z).1; omega
def gF (c c' : Nat → Nat → Int) (o : Nat) : Prop := ∀ i j, i ≠ o + 62 → i ≠ o + 63 → ¬ (i = o ∧ (j = 3 ∨ j = 6 ∨ j = 7 ∨ j = 8 ∨ j = 9 ∨ j = 12 ∨ j = 13)) → c' i j = c i j
theorem gF_e {c c' : Nat → Nat → Int} {o : Nat} (h : eF c c' o) : gF c c' o := fun i j _ _ a => h i j (by omega)
theorem gF_t {c c' c'' : Nat → Nat → Int} {o : Nat} (h : gF c c' o) (h' : gF c' c'' o) : gF c c'' o := fun i j a b e => by rw [h' i j a b e, h i j a b e]
theorem C_readName {G : ZG} {d : Nat} {c m : Nat → Nat → Int} {K : Option AV → AH → Prop} {rv : Nat → Nat → Option Nat} {o0 : Nat} (hR : RC rv) (ho : isSh o0) (ht : rv o0 4 = some 54) (h : PR o0 c m) (h0 : c o0 12 = 0) (k : ∀ (r : Int) (v c' : Nat → Nat → Int), nameR m r v → PR o0 c' v → gF c c' o0 → ((r = -1 ∧ ¬ c' o0 12 = 0) ∨ ((0 ≤ r ∧ r < 8) ∧ c' o0 12 = 0)) → K (some (vi r)) (mkC c' rv)) : Z G mX6_readName (d + 1) 0 0 0 [vr (some o0), vu] [] (mkC c rv) K := by
  have t := tk41 h.1
  have pt := h.1
  have pn := h.2.2.1
  have e6 := pt.2.2.2.2.1
  have e8 := pt.2.2.2.2.2.1
  have tr := pt.2.1.1
  have n8 := pn.2.1
  have bad : ¬ (m 0 45 = 2 ∧ m 0 47 - m 0 46 ≤ 8) → Z G mX6_misplaced d 0 0 0 [vr (some o0)] [] (mkC c rv) (fun r A1 => Z G mX6_readName (d + 1) 0 0 26 [vr (some o0), vu] (r.toList ++ []) A1 K) := by
    intro n
    refine C_mis hR ho h0 ?_
    refine Z.fg (L' := [vu, vu]) ⟨Or.inr rfl, Or.inl rfl, trivial⟩ ?_
    apply sX6_readName_26 hR
    refine k (-1) _ _ (Or.inl ⟨n, rfl, rfl⟩) (PR_mis ho h h0) (gF_e eF_c) (Or.inl ⟨rfl, ?_⟩)
    rw [cfl_f.2.2.1]; split <;> decide
  apply sX6_readName_0 hR ho ht
  rw [e6, e8]
  refine ⟨fun n => bad (fun z => n (t.2.2.2.1.mpr z.1)), fun e => ⟨by omega, fun le => ?_, fun gt => bad (fun z => by omega)⟩⟩
  have e2 := t.2.2.2.1.mp e
  obtain ⟨ta, tl⟩ := pt.2.2.2.2.2.2.2.2.2 e2
  have fin : ∀ x : Int, nmI m (nmP m) = x → (0 ≤ x ∧ x ≤ m 0 71) → Z G mX6_readName (d + 1) 0 0 52 [vr (some o0), vi x] [] (mkC c rv) K := by
    intro x ex rx
    apply sX6_readName_52 hR ho ht
    rw [pn.1]
    refine ⟨fun l8 => ⟨fun nn => ⟨by have := pt.1.1; omega, pt.1.1.2.2.2, pt.1.2.1, fun v f => ?_⟩, fun ee => ?_⟩, fun g8 => ?_⟩
    · exact k x _ v (Or.inr ⟨⟨e2, le⟩, Or.inr (Or.inr ⟨by omega, by omega, ex.symm, rfl⟩)⟩) (PR_next ho h f.1 f.2) (gF_e (eF_a f.1)) (Or.inr ⟨by omega, by rw [f.1 o0 12 (by omega)]; exact h0⟩)
    · generalize hc1 : iu (iu (iu c (o0 + 62) x.toNat (c o0 8)) (o0 + 63) x.toNat (c o0 6 - c o0 8)) o0 3 (m 0 71 + 1) = c1
      generalize hm1 : iu (iu m 44 x.toNat (nmP m)) 0 71 (m 0 71 + 1) = m1
      have n54 : (54 : Nat) ≠ o0 ∧ 54 ≠ o0 + 62 ∧ 54 ≠ o0 + 63 := by rcases ho with e | e <;> subst e <;> decide
      have cr : ∀ i, i ≠ o0 → i ≠ o0 + 62 → i ≠ o0 + 63 → c1 i = c i := fun i a b z => by rw [← hc1, iu_row a, iu_row z, iu_row b]
      have co : ∀ j, j ≠ 3 → c1 o0 j = c o0 j := fun j a => by rw [← hc1, iu_k a, iu_o (by omega), iu_o (by omega)]
      have c3 : c1 o0 3 = m 0 71 + 1 := by rw [← hc1]; exact iu_eq
      have c62 : ∀ j, c1 (o0 + 62) j = if j = x.toNat then c o0 8 else c (o0 + 62) j := fun j => by rw [← hc1, iu_o (by omega), iu_o (by omega), iu_i]
      have c63 : ∀ j, c1 (o0 + 63) j = if j = x.toNat then c o0 6 - c o0 8 else c (o0 + 63) j := fun j => by rw [← hc1, iu_o (by omega), iu_i, iu_o (by omega)]
      have mr : ∀ i, i ≠ 0 → i ≠ 44 → m1 i = m i := fun i a b => by rw [← hm1, iu_row a, iu_row b]
      have mo : ∀ j, j ≠ 71 → m1 0 j = m 0 j := fun j a => by rw [← hm1, iu_k a, iu_o (by decide)]
      have m71 : m1 0 71 = m 0 71 + 1 := by rw [← hm1]; exact iu_eq
      have m44 : ∀ j, m1 44 j = if j = x.toNat then nmP m else m 44 j := fun j => by rw [← hm1, iu_o (by decide), iu_i]
      have pr1 : PR o0 c1 m1 := by
        refine ⟨?_, ?_, ?_, ?_⟩
        · unfold PT TxC TxM at *
          rw [cr 54 n54.1 n54.2.1 n54.2.2, co 5 (by decide), co 6 (by decide), co 7 (by decide), co 8 (by decide), co 9 (by decide), mr 29 (by decide) (by decide), mo 44 (by decide), mo 45 (by decide), mo 46 (by decide), mo 47 (by decide), mo 48 (by decide)]
          exact pt
        · unfold PF
          rw [co 12 (by decide), co 13 (by decide), mo 50 (by decide), mo 51 (by decide)]; exact h.2.1
        · refine ⟨by rw [c3, m71], by rw [m71]; omega, fun i i0 i1 => ?_⟩
          rw [m71] at i1
          rw [c62, c63, m44, mo 44 (by decide), mr 29 (by decide) (by decide)]
          by_cases g : i = x
          · subst g
            rw [if_pos rfl, if_pos rfl, if_pos rfl, e6, e8]
            exact ⟨by omega, fun k a b => tl k a (by omega), rfl⟩
          · rw [if_neg (by omega), if_neg (by omega), if_neg (by omega)]
            exact pn.2.2 i i0 (by omega)
        · have ps := h.2.2.2
          have s60 := ps.2.1
          refine ⟨by rw [co 11 (by decide), mo 70 (by decide)]; exact ps.1, by rw [mo 70 (by decide)]; exact ps.2.1, fun z0 i i0 i1 => ?_⟩
          rw [mo 70 (by decide)] at i1
          rw [mo 51 (by decide)] at z0
          have := ps.2.2 z0 i i0 i1
          unfold stE at *
          rw [cr (o0 + 2 + i.toNat) (by omega) (by omega) (by omega), mr 42 (by decide) (by decide)]; exact this
      refine ⟨by omega, by rw [e6, e8]; omega, by omega, by omega, by rw [co 6 (by decide), co 5 (by decide)]; have := pt.1.1; omega, by rw [co 5 (by decide)]; exact pt.1.1.2.2.2, by rw [cr 54 n54.1 n54.2.1 n54.2.2]; exact pt.1.2.1, fun v f => ?_⟩
      refine k x (nx m1) v (Or.inr ⟨⟨e2, le⟩, Or.inr (Or.inl ⟨by omega, by omega, ex.symm, ?_⟩)⟩) (PR_next ho pr1 f.1 f.2) ?_ (Or.inr ⟨by omega, ?_⟩)
      · rw [ex, hm1]
      · intro i j a b z
        rw [f.1 i j (by omega), ← hc1, iu_ap, if_neg (by omega), iu_o b, iu_o a]
      · rw [f.1 o0 12 (by omega), co 12 (by decide)]; exact h0
    · refine C_bla hR ho h0 ?_
      refine Z.fg (L' := [vu, vu]) ⟨Or.inr rfl, Or.inr rfl, trivial⟩ ?_
      apply sX6_readName_63 hR
      refine k (-1) _ _ (Or.inr ⟨⟨e2, le⟩, Or.inl ⟨by omega, rfl, rfl⟩⟩) (PR_bla ho (by omega) h h0 (by omega)) (gF_e eF_c) (Or.inl ⟨rfl, ?_⟩)
      rw [cfl_f.2.2.1]; decide
  refine lp_up (P := fun i (_ : Unit) => Z G mX6_readName (d + 1) 0 0 30 [vr (some o0), vi i] [] (mkC c rv) K) (m 0 71) (fun i _ => 0 ≤ i ∧ ∀ q : Int, 0 ≤ q → q < i → m 44 q.toNat ≠ nmP m) ?_ ?_ 0 () n8.1 ⟨by omega, fun q a b => by omega⟩
  · rintro - ⟨-, q⟩
    apply sX6_readName_30 hR ho ht
    rw [pn.1]
    exact ⟨fun _ => fin _ (nmI_f ⟨n8.1, Int.le_refl _⟩ q (fun z => by omega)) ⟨n8.1, Int.le_refl _⟩, fun z => by omega⟩
  · rintro i - hi ⟨i0, q⟩ ih
    apply sX6_readName_30 hR ho ht
    rw [pn.1]
    refine ⟨fun z => by omega, fun _ => C_isName hR ho ht h e2 ⟨i0, hi⟩ (fun y => ?_) (fun y => ?_)⟩
    · apply sX6_readName_43 hR ho ht
      exact ⟨fun _ => fin i (nmI_f (by omega) q (fun _ => y)) (by omega), fun z => absurd z (by decide)⟩
    · apply sX6_readName_43 hR ho ht
      refine ⟨fun z => absurd rfl z, fun _ => ⟨by omega, ih () ⟨by omega, fun p a b => ?_⟩⟩⟩
      by_cases g : p = i
      · rw [g]; exact y
      · exact q p a (by omega)

