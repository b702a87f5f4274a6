/-! ===== reading in step: a new step, the class ===== -/
def becI (c : Nat → Nat → Int) (p : Nat) (kd a : Int) : Nat → Nat → Int := iu (iu (iu (iu (iu (iu (iu (iu (iu (iu c p 0 kd) p 1 a) p 2 (-1)) p 3 (-1)) p 4 (-1)) p 5 (-1)) p 6 (-1)) p 7 (-1)) p 8 (-1)) p 9 0
def becR (rv : Nat → Nat → Option Nat) (p : Nat) : Nat → Nat → Option Nat := ru (ru (ru rv p 10 none) p 11 none) p 12 none
theorem ctk_st : ∀ i, i < ctC.length → ¬ ((57 ≤ (ctk i).1 ∧ (ctk i).1 < 117) ∨ (121 ≤ (ctk i).1 ∧ (ctk i).1 < 181)) := by decide +kernel
theorem RC_ru {rv : Nat → Nat → Option Nat} {p j : Nat} {x : Option Nat} (hR : RC rv) (hp : isSt p) : RC (ru rv p j x) := by
  intro i
  rw [ru_o]
  · exact hR i
  · intro e
    by_cases h : i < ctC.length
    · exact ctk_st i h (by rw [e]; exact hp)
    · have : ctk i = (0, 0, 1) := by unfold ctk; rw [List.getD_eq_getElem?_getD, List.getElem?_eq_none (by omega)]; rfl
      rw [this] at e
      unfold isSt at hp
      dsimp only at e
      omega
theorem becI_f {c : Nat → Nat → Int} {p : Nat} {kd a : Int} : (∀ i, i ≠ p → becI c p kd a i = c i) ∧ becI c p kd a p 0 = kd ∧ becI c p kd a p 1 = a ∧ becI c p kd a p 2 = -1 ∧ becI c p kd a p 3 = -1 ∧ becI c p kd a p 4 = -1 ∧ becI c p kd a p 5 = -1 ∧ becI c p kd a p 6 = -1 ∧ becI c p kd a p 7 = -1 ∧ becI c p kd a p 8 = -1 ∧ becI c p kd a p 9 = 0 := by
  unfold becI
  refine ⟨fun i h => by rw [iu_row h, iu_row h, iu_row h, iu_row h, iu_row h, iu_row h, iu_row h, iu_row h, iu_row h, iu_row h], ?_, ?_, ?_, ?_, ?_, ?_, ?_, ?_, ?_, ?_⟩
  all_goals (repeat (first | exact iu_eq | rw [iu_k (by decide)]))
/-- the class's frame from a step's number on -/
def sF (c c' : Nat → Nat → Int) (o : Nat) (s : Int) : Prop := ∀ a j, ¬ (o + 2 + s.toNat ≤ a ∧ a < o + 64) → ¬ (a = o ∧ (j = 3 ∨ j = 6 ∨ j = 7 ∨ j = 8 ∨ j = 9 ∨ j = 11 ∨ j = 12 ∨ j = 13)) → c' a j = c a j
def sR (rv rv' : Nat → Nat → Option Nat) (o : Nat) (s : Int) : Prop := ∀ a j, ¬ (o + 2 + s.toNat ≤ a ∧ a < o + 62) → rv' a j = rv a j
theorem C_newStep {G : ZG} {d : Nat} {c m : Nat → Nat → Int} {K : Option AV → AH → Prop} {rv : Nat → Nat → Option Nat} {o0 : Nat} {x1 : Int} (hR : RC rv) (ho : isSh o0) (ht : rv o0 4 = some 54) (h : PR o0 c m) (h0 : m 0 51 = 0) (hx : x1 = m 0 74) (kn : stepV m = (0, (stepV m).2) → ∀ c', PF o0 c' (stepV m).2 → sF c c' o0 (m 0 70) → ¬ c' o0 12 = 0 → K (some (vr none)) (mkC c' rv)) (ky : 0 ≤ knd (wM m) → knd (wM m) ≤ 6 → m 0 70 < 60 → m 0 74 < 4 → ∀ c', PR o0 c' (nws m (knd (wM m))) → sF c c' o0 (m 0 70) → c' o0 12 = 0 → Z G mX6_readStep (d + 7) 0 0 70 [vr (some o0), vi x1, vi (knd (wM m)), vr (some (o0 + 2 + (m 0 70).toNat))] [] (mkC c' (becR rv (o0 + 2 + (m 0 70).toNat))) K) : Z G mX6_readStep (d + 7) 0 0 0 [vr (some o0), vi x1, vu, vu] [] (mkC c rv) K := by
  obtain ⟨pt, pf, pn, ps⟩ := id h
  have ew := PT_w pt
  have c0 : c o0 12 = 0 := by rw [pf.1]; exact h0
  have r := (wn_r (b := m 29) (t := m 0 45) (a := m 0 46) (e := m 0 47))
  have r1 : -1 ≤ wM m ∧ wM m ≤ 14 := r.1
  have r2 : wM m ≠ -1 → m 0 45 = 2 := r.2
  have kr : -1 ≤ knd (wM m) ∧ knd (wM m) ≤ 6 := by unfold knd; split <;> omega
  have fl : ∀ k : Int, sF c (cfl k c o0) o0 (m 0 70) := by
    intro k a j b z
    unfold cfl
    rw [iu_ap, if_neg (by omega), iu_ap, if_neg (by omega)]
  have lim : ¬ knd (wM m) = -1 → (m 0 70 = 60 ∨ 4 ≤ m 0 74) → K (some (vr none)) (mkC (cfl 3 c o0) rv) := by
    intro n q
    have es : stepV m = (0, mfail 3 m) := by unfold stepV; rw [if_neg n, if_pos q]
    have n45 : m 0 45 ≠ 1 := by have := r2 (by unfold knd at n; split at n <;> omega); omega
    refine kn (by rw [es]) _ ?_ (fl 3) (by rw [cfl_f.2.2.1]; decide)
    rw [es]; exact (PR_bla ho (by omega) h c0 n45).2.1
  apply sX6_readStep_0 hR ho ht
  rw [ew]
  refine ⟨pt.1, fun n => ⟨fun ge => ?_, fun lt => ⟨fun l60 => ⟨by have a := ps.2.1; have b := ps.1; omega, ?_⟩, fun g60 => ?_⟩⟩, fun e => ?_⟩
  · refine C_bla hR ho c0 ?_
    refine Z.fg (L' := [vu, vu, vu, vu]) ⟨Or.inr rfl, Or.inr rfl, Or.inr rfl, Or.inr rfl, trivial⟩ ?_
    apply sX6_readStep_35 hR
    exact lim n (Or.inr (by omega))
  · have i60 : 0 ≤ m 0 70 ∧ m 0 70 < 60 := by have := ps.1; have := ps.2.1; omega
    have h1 : isSt (o0 + 2 + (m 0 70).toNat) := by unfold isSt; rcases ho with e | e <;> subst e <;> omega
    rw [ps.1]
    apply sX9_become_0 hR h1
    have e8 := pt.2.2.2.2.2.1
    generalize hp : o0 + 2 + (m 0 70).toNat = p at *
    have np : (54 : Nat) ≠ p ∧ o0 ≠ p ∧ o0 + 62 ≠ p ∧ o0 + 63 ≠ p := by
      subst hp; rcases ho with e | e <;> subst e <;> omega
    have hR2 : RC (becR rv p) := RC_ru (RC_ru (RC_ru hR h1) h1) h1
    have ht2 : becR rv p o0 4 = some 54 := by unfold becR; rw [ru_o np.2.1, ru_o np.2.1, ru_o np.2.1]; exact ht
    obtain ⟨b0, b1, b2, b3, b4, b5, b6, b7, b8, b9, b10⟩ := becI_f (c := c) (p := p) (kd := knd (wM m)) (a := c o0 8)
    have eb : iu (iu (iu (iu (iu (iu (iu (iu (iu (iu c p 0 (knd (wM m))) p 1 (c o0 8)) p 2 (-1)) p 3 (-1)) p 4 (-1)) p 5 (-1)) p 6 (-1)) p 7 (-1)) p 8 (-1)) p 9 0 = becI c p (knd (wM m)) (c o0 8) := rfl
    rw [eb]
    generalize becI c p (knd (wM m)) (c o0 8) = c1 at *
    have er : (ru (ru (ru rv p 10 none) p 11 none) p 12 none) = becR rv p := rfl
    rw [er]
    show Z G mX6_readStep (d + 7) 0 0 56 _ [] _ K
    apply sX6_readStep_56 hR2 ho h1 ht2
    have o11 : c1 o0 11 = m 0 70 := by rw [b0 o0 np.2.1]; exact ps.1
    rw [o11, iu_k (i := o0) (j := 6) (by decide), iu_k (i := o0) (j := 5) (by decide), iu_row (i := 54) (by rcases ho with e | e <;> subst e <;> decide), b0 o0 np.2.1, b0 54 np.1]
    -- the model with the new step, ahead of its next token
    have mB : ∀ i j, i ≠ 42 → ¬ (i = 0 ∧ j = 70) → (iu (iu (ifill (iu m 0 70 (m 0 70 + 1)) 42 (12 * m 0 70).toNat (12 * m 0 70 + 12).toNat (-1)) 42 (12 * m 0 70 + 0).toNat (knd (wM m))) 42 (12 * m 0 70 + 6).toNat (m 0 46)) i j = m i j := by
      intro i j a b
      rw [iu_o a, iu_o a, ifill_row a, iu_ap, if_neg b]
    have m42 : ∀ j, (iu (iu (ifill (iu m 0 70 (m 0 70 + 1)) 42 (12 * m 0 70).toNat (12 * m 0 70 + 12).toNat (-1)) 42 (12 * m 0 70 + 0).toNat (knd (wM m))) 42 (12 * m 0 70 + 6).toNat (m 0 46)) 42 j = if j = (12 * m 0 70 + 6).toNat then m 0 46 else if j = (12 * m 0 70 + 0).toNat then knd (wM m) else if (12 * m 0 70).toNat ≤ j ∧ j < (12 * m 0 70 + 12).toNat then -1 else m 42 j := by
      intro j
      rw [iu_i, iu_i]
      unfold ifill
      by_cases g1 : j = (12 * m 0 70 + 6).toNat
      · rw [if_pos g1, if_pos g1]
      · rw [if_neg g1, if_neg g1]
        by_cases g2 : j = (12 * m 0 70 + 0).toNat
        · rw [if_pos g2, if_pos g2]
        · rw [if_neg g2, if_neg g2]
          by_cases g3 : (12 * m 0 70).toNat ≤ j ∧ j < (12 * m 0 70 + 12).toNat
          · rw [if_pos ⟨rfl, g3⟩, if_pos g3]
          · rw [if_neg (fun z => g3 z.2), if_neg g3, iu_o (by decide)]
    have m70 : (iu (iu (ifill (iu m 0 70 (m 0 70 + 1)) 42 (12 * m 0 70).toNat (12 * m 0 70 + 12).toNat (-1)) 42 (12 * m 0 70 + 0).toNat (knd (wM m))) 42 (12 * m 0 70 + 6).toNat (m 0 46)) 0 70 = m 0 70 + 1 := by
      rw [iu_o (by decide), iu_o (by decide), ifill_row (by decide)]; exact iu_eq
    have en : nws m (knd (wM m)) = nx (iu (iu (ifill (iu m 0 70 (m 0 70 + 1)) 42 (12 * m 0 70).toNat (12 * m 0 70 + 12).toNat (-1)) 42 (12 * m 0 70 + 0).toNat (knd (wM m))) 42 (12 * m 0 70 + 6).toNat (m 0 46)) := rfl
    rw [en] at ky
    generalize (iu (iu (ifill (iu m 0 70 (m 0 70 + 1)) 42 (12 * m 0 70).toNat (12 * m 0 70 + 12).toNat (-1)) 42 (12 * m 0 70 + 0).toNat (knd (wM m))) 42 (12 * m 0 70 + 6).toNat (m 0 46)) = mm at *
    have c2o : ∀ j, j ≠ 11 → iu c1 o0 11 (m 0 70 + 1) o0 j = c o0 j := fun j a => by rw [iu_k a, b0 o0 np.2.1]
    have c2r : ∀ i, i ≠ o0 → iu c1 o0 11 (m 0 70 + 1) i = c1 i := fun i a => iu_row a
    have mo : ∀ j, j ≠ 70 → mm 0 j = m 0 j := fun j a => mB 0 j (by decide) (by omega)
    have mr : ∀ i, i ≠ 0 → i ≠ 42 → mm i = m i := fun i a b => funext fun j => mB i j b (fun z => a z.1)
    have nz : o0 ≠ 54 ∧ (54 : Nat) ≠ o0 := by rcases ho with e | e <;> subst e <;> decide
    have pr : PR o0 (iu c1 o0 11 (m 0 70 + 1)) mm := by
      refine ⟨?_, ?_, ?_, ?_⟩
      · unfold PT TxC TxM at *
        rw [c2r 54 nz.2, b0 54 np.1, c2o 5 (by decide), c2o 6 (by decide), c2o 7 (by decide), c2o 8 (by decide), c2o 9 (by decide), mr 29 (by decide) (by decide), mo 44 (by decide), mo 45 (by decide), mo 46 (by decide), mo 47 (by decide), mo 48 (by decide)]
        exact pt
      · unfold PF at *
        rw [c2o 12 (by decide), c2o 13 (by decide), mo 50 (by decide), mo 51 (by decide)]; exact pf
      · unfold PN at *
        rw [c2o 3 (by decide), c2r (o0 + 62) (by omega), c2r (o0 + 63) (by omega), b0 (o0 + 62) np.2.2.1, b0 (o0 + 63) np.2.2.2, mo 71 (by decide), mo 44 (by decide), mr 29 (by decide) (by decide), mr 44 (by decide) (by decide)]
        exact pn
      · refine ⟨by rw [iu_eq, m70], by rw [m70]; omega, fun _ i i0 i1 => ?_⟩
        rw [m70] at i1
        unfold stE
        rw [c2r (o0 + 2 + i.toNat) (by omega)]
        by_cases g : i = m 0 70
        · subst g
          rw [hp, b1, b2, b3, b4, b5, b6, b7, b8, b9, b10]
          rw [m42, m42, m42, m42, m42, m42, m42, m42, m42, m42]
          refine ⟨?_, ?_, ?_, ?_, ?_, ?_, ?_, ?_, ?_, ?_⟩
          · rw [if_neg (by omega), if_pos rfl]
          · rw [if_pos rfl]; exact e8
          all_goals first
            | (rw [if_neg (by omega), if_neg (by omega), if_pos (by omega)]; done)
            | (rw [if_neg (by omega), if_neg (by omega), if_pos (by omega)]; rfl)
        · have s := ps.2.2 h0 i i0 (by omega)
          unfold stE at s
          rw [b0 (o0 + 2 + i.toNat) (by omega)]
          have q42 : ∀ w : Int, 0 ≤ w → w < 12 → mm 42 (12 * i + w).toNat = m 42 (12 * i + w).toNat := by
            intro w w0 w1
            rw [m42, if_neg (by omega), if_neg (by omega), if_neg (by omega)]
          rw [q42 0 (by omega) (by omega), q42 1 (by omega) (by omega), q42 2 (by omega) (by omega), q42 3 (by omega) (by omega), q42 4 (by omega) (by omega), q42 5 (by omega) (by omega), q42 6 (by omega) (by omega), q42 9 (by omega) (by omega), q42 10 (by omega) (by omega), q42 11 (by omega) (by omega)]
          exact s
    have tr := pt.1
    refine ⟨by omega, by have := tr.1; omega, tr.1.2.2.2, tr.2.1, fun v f => ky (by omega) kr.2 (by omega) (by omega) v (PR_next ho pr f.1 f.2) ?_ ?_⟩
    · intro a j b z
      rw [f.1 a j (by omega), iu_ap, if_neg (by omega)]
      by_cases g : a = p
      · exfalso; apply b; subst hp; omega
      · rw [b0 a g]
    · rw [f.1 o0 12 (by omega), c2o 12 (by decide)]; exact c0
  · refine C_bla hR ho c0 ?_
    refine Z.fg (L' := [vu, vu, vu, vu]) ⟨Or.inr rfl, Or.inr rfl, Or.inr rfl, Or.inr rfl, trivial⟩ ?_
    apply sX6_readStep_35 hR
    exact lim n (Or.inl (by have := ps.1; have := ps.2.1; omega))
  · refine C_mis hR ho c0 ?_
    refine Z.fg (L' := [vu, vu, vu, vu]) ⟨Or.inr rfl, Or.inr rfl, Or.inr rfl, Or.inr rfl, trivial⟩ ?_
    apply sX6_readStep_14 hR
    have es : stepV m = (0, mfail 2 m) := by unfold stepV; rw [if_pos e]
    refine kn (by rw [es]) _ ?_ (fl _) (by rw [cfl_f.2.2.1]; split <;> decide)
    rw [es]; exact (PR_mis ho h c0).2.1

