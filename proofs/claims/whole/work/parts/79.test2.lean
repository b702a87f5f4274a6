/-! ===== reading in step: tests, coupled ===== -/
theorem PR_ab {o : Nat} {c m : Nat → Nat → Int} {i r : Int} (ho : isSh o) (h : PR o c m) (hi : 0 ≤ i ∧ i < m 0 70) : PR o (iu c (o + 2 + i.toNat) 9 (b01 (r = 62))) (iu m 42 (12 * i + 10).toNat r) := by
  obtain ⟨h1, h2, h3, h4⟩ := h
  have s60 := h4.2.1
  have no : (54 : Nat) ≠ o + 2 + i.toNat ∧ o ≠ o + 2 + i.toNat ∧ o + 62 ≠ o + 2 + i.toNat ∧ o + 63 ≠ o + 2 + i.toNat := by
    rcases ho with e | e <;> subst e <;> omega
  have cr : ∀ (x : Int) j, j ≠ o + 2 + i.toNat → iu c (o + 2 + i.toNat) 9 x j = c j := fun x j a => iu_row a
  have mr : ∀ j, j ≠ 42 → iu m 42 (12 * i + 10).toNat r j = m j := fun j a => iu_row a
  refine ⟨?_, ?_, ?_, ?_⟩
  · unfold PT TxC TxM at *
    rw [cr _ 54 no.1, cr _ o no.2.1, mr 0 (by decide), mr 29 (by decide)]; exact h1
  · unfold PF at *
    rw [cr _ o no.2.1, mr 0 (by decide)]; exact h2
  · unfold PN at *
    rw [cr _ o no.2.1, cr _ (o + 62) no.2.2.1, cr _ (o + 63) no.2.2.2, mr 0 (by decide), mr 29 (by decide), mr 44 (by decide)]; exact h3
  · unfold PS at *
    rw [cr _ o no.2.1, mr 0 (by decide)]
    refine ⟨h4.1, h4.2.1, fun z j j0 j1 => ?_⟩
    have s := h4.2.2 z j j0 j1
    unfold stE at *
    by_cases g : j = i
    · subst g
      obtain ⟨s0, s1, s2, s3, s4, s5, s6, s7, s8, s9⟩ := s
      refine ⟨?_, ?_, ?_, ?_, ?_, ?_, ?_, ?_, ?_, ?_⟩
      all_goals first
        | (rw [iu_k (by decide), iu_k (by omega)]; assumption)
        | (rw [iu_eq, iu_eq])
    · rw [cr _ (o + 2 + j.toNat) (by omega)]
      rw [iu_k (j := (12 * j + 0).toNat) (by omega), iu_k (j := (12 * j + 1).toNat) (by omega), iu_k (j := (12 * j + 2).toNat) (by omega), iu_k (j := (12 * j + 3).toNat) (by omega), iu_k (j := (12 * j + 4).toNat) (by omega), iu_k (j := (12 * j + 5).toNat) (by omega), iu_k (j := (12 * j + 6).toNat) (by omega), iu_k (j := (12 * j + 9).toNat) (by omega), iu_k (j := (12 * j + 10).toNat) (by omega), iu_k (j := (12 * j + 11).toNat) (by omega)]
      exact s
theorem nameV_70 {m : Nat → Nat → Int} : (nameV m).2 0 70 = m 0 70 ∧ (nameV m).2 42 = m 42 := by
  unfold nameV
  split
  · split
    · exact ⟨mfail_f.2 70 (by decide) (by decide), mfail_f.1 42 (by decide)⟩
    · split
      · refine ⟨?_, ?_⟩
        · show nx (iu (iu m 44 (nmI m (nmP m)).toNat (nmP m)) 0 71 (m 0 71 + 1)) 0 70 = m 0 70
          rw [nx_f.2 70 (by decide) (by decide) (by decide) (by decide), iu_k (by decide), iu_o (by decide)]
        · show nx (iu (iu m 44 (nmI m (nmP m)).toNat (nmP m)) 0 71 (m 0 71 + 1)) 42 = m 42
          rw [nx_f.1 42 (by decide), iu_row (by decide), iu_row (by decide)]
      · exact ⟨nx_f.2 70 (by decide) (by decide) (by decide) (by decide), nx_f.1 42 (by decide)⟩
  · exact ⟨mfail_f.2 70 (by decide) (by decide), mfail_f.1 42 (by decide)⟩
theorem C_readTest {G : ZG} {d : Nat} {c m : Nat → Nat → Int} {K : Option AV → AH → Prop} {rv : Nat → Nat → Option Nat} {o0 : Nat} {i : Int} (hR : RC rv) (ho : isSh o0) (ht : rv o0 4 = some 54) (h : PR o0 c m) (h0 : m 0 51 = 0) (hi : 0 ≤ i ∧ i < m 0 70) (k : ∀ c', PR o0 c' (testV i m) → hF c c' o0 i.toNat → K none (mkC c' rv)) : Z G mX6_readTest (d + 6) 0 0 0 [vr (some o0), vr (some (o0 + 2 + i.toNat))] [] (mkC c rv) K := by
  have s60 := h.2.2.2.2.1
  have h1 : isSt (o0 + 2 + i.toNat) := by unfold isSt; rcases ho with e | e <;> subst e <;> omega
  have c0 : c o0 12 = 0 := by have := h.2.1.1; omega
  have ew := PT_w h.1
  have no : (54 : Nat) ≠ o0 + 2 + i.toNat ∧ o0 ≠ o0 + 2 + i.toNat := by
    rcases ho with e | e <;> subst e <;> omega
  -- the newest step's test is told, and the next token is there
  have set : ∀ x : Int, PR o0 (iu c (o0 + 2 + i.toNat) 7 x) (iu m 42 (12 * i + 9).toNat x) := fun x => PR_set (w := 9) ho h hi (by unfold fW; omega)
  have cr : ∀ (x : Int), iu c (o0 + 2 + i.toNat) 7 x o0 = c o0 ∧ iu c (o0 + 2 + i.toNat) 7 x 54 = c 54 := fun x => ⟨iu_row no.2, iu_row no.1⟩
  have tx := h.1.1
  have tr := tx.1
  have fr : ∀ (x : Int) v, aF (iu c (o0 + 2 + i.toNat) 7 x) v o0 → hF c v o0 i.toNat := fun x v f => hF_t (hF_s (fun _ _ _ _ _ _ => rfl)) (hF_e (eF_a f))
  -- parts and room
  have cmp : ∀ (x : Int), testV i m = (if nx (iu m 42 (12 * i + 9).toNat x) 0 45 = 4 ∧ (nx (iu m 42 (12 * i + 9).toNat x) 0 48 = 60 ∨ nx (iu m 42 (12 * i + 9).toNat x) 0 48 = 62) then iu (numV 0 9999 (nx (iu (nx (iu m 42 (12 * i + 9).toNat x)) 42 (12 * i + 10).toNat (nx (iu m 42 (12 * i + 9).toNat x) 0 48)))).2 42 (12 * i + 1).toNat (numV 0 9999 (nx (iu (nx (iu m 42 (12 * i + 9).toNat x)) 42 (12 * i + 10).toNat (nx (iu m 42 (12 * i + 9).toNat x) 0 48)))).1 else mfail 2 (nx (iu m 42 (12 * i + 9).toNat x))) → ∀ v, aF (iu c (o0 + 2 + i.toNat) 7 x) v o0 ∧ tkC (iu c (o0 + 2 + i.toNat) 7 x) v o0 → Z G mX6_readTest (d + 6) 0 0 69 [vr (some o0), vr (some (o0 + 2 + i.toNat))] [] (mkC v rv) K := by
    intro x ex v f
    have p1 := PR_next ho (set x) f.1 f.2
    have fv := fr x v f.1
    have v0 : v o0 12 = 0 := by rw [f.1 o0 12 (by omega), (cr x).1]; exact c0
    generalize hm1 : nx (iu m 42 (12 * i + 9).toNat x) = m1 at *
    have m70 : m1 0 70 = m 0 70 := by rw [← hm1, nx_f.2 70 (by decide) (by decide) (by decide) (by decide), iu_o (by decide)]
    have t := tk41 p1.1
    have e9 := p1.1.2.2.2.2.2.2.2.1
    have bad : ¬ (m1 0 45 = 4 ∧ (m1 0 48 = 60 ∨ m1 0 48 = 62)) → Z G mX6_misplaced (d + 5) 0 0 0 [vr (some o0)] [] (mkC v rv) (fun r A1 => Z G mX6_readTest (d + 6) 0 0 99 [vr (some o0), vr (some (o0 + 2 + i.toNat))] (r.toList ++ []) A1 K) := by
      intro n
      refine C_mis hR ho v0 ?_
      refine Z.fg (L' := [vu, vu]) ⟨Or.inr rfl, Or.inr rfl, trivial⟩ ?_
      apply sX6_readTest_99 hR
      refine k _ ?_ (hF_t fv (hF_e eF_c))
      rw [ex, if_neg n]; exact PR_mis ho p1 v0
    have good : (m1 0 45 = 4 ∧ (m1 0 48 = 60 ∨ m1 0 48 = 62)) → Z G mX6_readTest (d + 6) 0 0 100 [vr (some o0), vr (some (o0 + 2 + i.toNat))] [] (mkC v rv) K := by
      intro y
      rw [if_pos y] at ex
      have ev9 := e9 (Or.inr (t.2.1.mpr y.1))
      have fin : ∀ (b : Int), b = b01 (m1 0 48 = 62) → ∀ v3, aF (iu v (o0 + 2 + i.toNat) 9 b) v3 o0 ∧ tkC (iu v (o0 + 2 + i.toNat) 9 b) v3 o0 → Z G mX6_readNumber (d + 5) 0 0 0 [vr (some o0), vi 0, vi 9999, vu] [] (mkC v3 rv) (fun r A1 => Z G mX6_readTest (d + 6) 0 0 131 [vr (some o0), vr (some (o0 + 2 + i.toNat))] (r.toList ++ [vr (some (o0 + 2 + i.toNat))]) A1 K) := by
        intro b hb v3 f3
        have p2 := PR_ab (r := m1 0 48) ho p1 (i := i) (by rw [m70]; exact hi)
        rw [← hb] at p2
        have p3 := PR_next ho p2 f3.1 f3.2
        have v30 : v3 o0 12 = 0 := by rw [f3.1 o0 12 (by omega), iu_o no.2]; exact v0
        refine C_num hR ho ht p3 v30 (fun c' pp ff _ => ?_)
        refine Z.fg (L' := [vu, vu]) ⟨Or.inr rfl, Or.inr rfl, trivial⟩ ?_
        apply sX6_readTest_131 hR h1
        refine k _ ?_ (hF_s (hF_t (hF_t (hF_s fv) (hF_e (eF_a f3.1))) (hF_e ff)))
        rw [ex]
        refine PR_set (w := 1) ho pp ?_ (by unfold fW; omega)
        rw [numV_f.2.1, nx_f.2 70 (by decide) (by decide) (by decide) (by decide), iu_o (by decide), m70]; exact hi
      apply sX6_readTest_100 hR ho h1 ht
      have r6 : ∀ b : Int, iu v (o0 + 2 + i.toNat) 9 b o0 = v o0 := fun b => iu_row no.2
      have r54 : ∀ b : Int, iu v (o0 + 2 + i.toNat) 9 b 54 = v 54 := fun b => iu_row no.1
      have tv := p1.1.1
      rw [r6, r6, r54, r54, ev9]
      refine ⟨fun n => ⟨by have := tv.1; omega, tv.1.2.2.2, tv.2.1, fin 0 (by unfold b01; rw [if_neg n])⟩, fun e => ⟨by have := tv.1; omega, tv.1.2.2.2, tv.2.1, fin 1 (by unfold b01; rw [if_pos e])⟩⟩
    apply sX6_readTest_69 hR ho h1 ht
    refine ⟨fun n => bad (fun z => n (t.2.1.mpr z.1)), fun e => ?_⟩
    have ev9 := e9 (Or.inr e)
    rw [ev9]
    have e4 := t.2.1.mp e
    exact ⟨fun q => good ⟨e4, Or.inl q⟩, fun n => ⟨fun q => good ⟨e4, Or.inr q⟩, fun n2 => bad (fun z => by omega)⟩⟩
  apply sX6_readTest_0 hR ho h1 ht
  rw [ew, (cr 0).1, (cr 1).1, (cr 2).1, (cr 0).2, (cr 1).2, (cr 2).2]
  have pos : 0 ≤ c o0 6 ∧ c o0 6 ≤ c o0 5 := by omega
  have e13 : wM m = 13 → ∀ v, aF (iu c (o0 + 2 + i.toNat) 7 0) v o0 ∧ tkC (iu c (o0 + 2 + i.toNat) 7 0) v o0 → Z G mX6_readTest (d + 6) 0 0 69 [vr (some o0), vr (some (o0 + 2 + i.toNat))] [] (mkC v rv) K := fun y => cmp 0 (by
    conv => lhs; unfold testV
    rw [if_neg (by omega), if_pos (Or.inl y), if_pos y])
  have e14 : wM m = 14 → ∀ v, aF (iu c (o0 + 2 + i.toNat) 7 1) v o0 ∧ tkC (iu c (o0 + 2 + i.toNat) 7 1) v o0 → Z G mX6_readTest (d + 6) 0 0 69 [vr (some o0), vr (some (o0 + 2 + i.toNat))] [] (mkC v rv) K := fun y => cmp 1 (by
    conv => lhs; unfold testV
    rw [if_neg (by omega), if_pos (Or.inr y), if_neg (show ¬ wM m = 13 by omega)])
  refine ⟨tx, fun n12 => ⟨tx, fun y => ⟨tx, fun n => absurd y n, fun _ => ⟨pos, tr.2.2.2, tx.2.1, e13 y⟩⟩, fun n13 => ⟨tx, fun n14 => ?_, fun y => ⟨tx, fun _ => ⟨pos, tr.2.2.2, tx.2.1, e14 y⟩, fun z => absurd z n13⟩⟩⟩, fun y => ⟨pos, tr.2.2.2, tx.2.1, fun v f => ?_⟩⟩
  · refine C_mis hR ho c0 ?_
    refine Z.fg (L' := [vu, vu]) ⟨Or.inr rfl, Or.inr rfl, trivial⟩ ?_
    apply sX6_readTest_141 hR
    refine k _ ?_ (hF_e eF_c)
    have : testV i m = mfail 2 m := by unfold testV; rw [if_neg n12, if_neg (by omega)]
    rw [this]; exact PR_mis ho h c0
  · have p1 := PR_next ho (set 2) f.1 f.2
    have v0 : v o0 12 = 0 := by rw [f.1 o0 12 (by omega), (cr 2).1]; exact c0
    refine C_readName hR ho ht p1 v0 (fun r m2 c' nr pp ff _ => ?_)
    obtain ⟨er, em⟩ := nameR_e nr
    refine Z.fg (L' := [vu, vu]) ⟨Or.inr rfl, Or.inr rfl, trivial⟩ ?_
    apply sX6_readTest_23 hR h1
    refine k _ ?_ (hF_s (hF_t (fr 2 v f.1) (hF_g ff)))
    have : testV i m = iu m2 42 (12 * i + 11).toNat r := by unfold testV; rw [if_pos y, ← er, ← em]
    rw [this]
    refine PR_set (w := 11) ho pp ?_ (by unfold fW; omega)
    rw [em, nameV_70.1, nx_f.2 70 (by decide) (by decide) (by decide) (by decide), iu_o (by decide)]; exact hi

