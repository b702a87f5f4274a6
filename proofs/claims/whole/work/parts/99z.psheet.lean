/-! ===== the public methods: a sheet ===== -/
theorem ctk_0 : ∀ i, i < ctC.length → (ctk i).1 = 0 → (ctk i).2.1 < 11 := by decide +kernel
theorem RC_0 {rv : Nat → Nat → Option Nat} {j : Nat} {x : Option Nat} (hR : RC rv) (hj : 11 ≤ j) : RC (ru rv 0 j x) := by
  intro i
  unfold ru
  rw [if_neg]
  · exact hR i
  · intro e
    by_cases h : i < ctC.length
    · have := ctk_0 i h e.1
      omega
    · have : ctk i = (0, 0, 1) := by unfold ctk; rw [List.getD_eq_getElem?_getD, List.getElem?_eq_none (by omega)]; rfl
      rw [this] at e
      dsimp only at e
      omega
theorem shV_f {m : Nat → Nat → Int} : (shV m 0 68 = m 0 70 ∧ shV m 0 69 = m 0 71 ∧ shV m 0 49 = m 0 51 ∧ shV m 0 52 = 1 ∧ shV m 0 0 = 0) ∧ (∀ w j : Nat, w < 12 → j < (m 0 70).toNat → shV m (30 + w) j = m 42 (12 * j + w)) ∧ (∀ j, j < 8 → shV m 47 j = -1) ∧ (∀ i j, ¬ (30 ≤ i ∧ i ≤ 41) ∧ i ≠ 43 ∧ i ≠ 47 ∧ ¬ (i = 0 ∧ (j = 0 ∨ j = 49 ∨ j = 52 ∨ j = 68 ∨ j = 69)) → shV m i j = m i j) := by
  have n0 : ∀ (v : Nat → Nat → Int) k j, cpN v k 0 j = v 0 j := fun v k j => by unfold cpN; rw [if_neg (by omega), if_neg (by omega)]
  have s0 : ∀ (v : Nat → Nat → Int) k j, cpS v k 0 j = v 0 j := fun v k j => by unfold cpS; rw [if_neg (by omega)]
  unfold shV
  refine ⟨⟨?_, ?_, ?_, ?_, iu_eq⟩, fun w j hw hj => ?_, fun j hj => ?_, fun i j q => ?_⟩
  · rw [iu_k (by decide), iu_k (by decide), n0, iu_k (by decide), s0, iu_eq]
  · rw [iu_k (by decide), iu_k (by decide), n0, iu_eq]
  · rw [iu_k (by decide), iu_k (by decide), n0, iu_k (by decide), s0, iu_k (by decide), iu_eq]
  · rw [iu_k (by decide), iu_eq]
  · rw [iu_o (by omega), iu_o (by omega)]
    unfold cpN
    rw [if_neg (by omega), if_neg (by omega), iu_o (by omega)]
    unfold cpS
    rw [if_pos (by omega), iu_o (by decide), iu_o (by decide), show 30 + w - 30 = w by omega]
  · rw [iu_o (by decide), iu_o (by decide)]
    unfold cpN
    rw [if_neg (by omega), if_pos ⟨rfl, hj⟩]
  · rw [iu_ap, if_neg (by omega), iu_ap, if_neg (by omega)]
    unfold cpN
    rw [if_neg (by omega), if_neg (by omega), iu_ap, if_neg (by omega)]
    unfold cpS
    rw [if_neg (by omega), iu_ap, if_neg (by omega), iu_ap, if_neg (by omega)]
theorem P_sheet {G G' : ZG} {c m : Nat → Nat → Int} {rv : Nat → Nat → Option Nat} {B : Int} {x1 : Int} (h : RL B c rv m) (hB : 0 ≤ B ∧ B ≤ 10000000) (hx1 : -2147483648 ≤ x1 ∧ x1 ≤ 2147483647) : Z G mX11_sheet 40 0 0 0 [vr (some 0), vi x1, vu] [] (mkC c rv) (QC G' mX12_sheet [vr (some 0), vi x1, vu, vu] m (B + 1000)) := by
  obtain ⟨a0, a1, a2, a3, a4, a5, a6, a7, a8, a9, a10, a11, a12, a13⟩ := id h
  obtain ⟨p1, p2, a, b, a', b', hx⟩ := a13
  obtain ⟨g1, g2, g3, g4, g5, g6, g7, g8, g9, g10⟩ := id hx
  have hp1 : isSh p1 := by unfold isSh; omega
  have hp2 : isSh p2 := by unfold isSh; omega
  have gab := g6.2.2
  obtain ⟨f1, f2, f3, f4, f5, f6⟩ := id a11
  apply sX11_sheet_0 a0 hp2 g3
  rw [f1]
  refine ⟨fun p => ?_, fun p => ⟨_, rv, rfl, M_sheetB f5 f6 f2.2 (fun _ => QM_u h) (fun e => absurd e p)⟩⟩
  obtain ⟨s44, s47, s51, s50, s70, s71, s74, s43, s29, sr, s0⟩ := shB_f (m := m) (n := x1)
  have hw : bOK (shB m x1 29) := fun k k0 k1 => by
    rw [s29]; split
    · exact f5 k k0 k1
    · exact f6 k k0 k1
  refine C_parse a0 hp2 (by omega) f4 hw s44 s47 s51 s50 s70 s71 s74 (fun k k0 k1 => by rw [s29, if_pos (by omega)]; exact f3 k k0 (by omega)) (fun c' rv' m' cz pf mf gs gv hR' ok => ?_)
  have cm : ∀ (K : Option AV → AH → Prop), ((m' 0 51 = 0 → WFA m') → EZ G' 32 K m') → Z G' mX12_sheet (32 + 8) 0 0 0 [vr (some 0), vi x1, vu, vu] [] (mkM m) K := fun K ez => M_sheetB f5 f6 f2.2 (fun e => absurd p e) (fun _ => cz G' 32 K ez)
  -- frames
  have hc : ∀ i j, ¬ (p2 ≤ i ∧ i < p2 + 64) → c' i j = c i j := gs
  have hr : ∀ i j, ¬ (p2 ≤ i ∧ i < p2 + 62) → rv' i j = rv i j := gv
  have hm : ∀ i j, i ≠ 29 ∧ i ≠ 42 ∧ i ≠ 44 ∧ i ≠ 45 ∧ i ≠ 46 ∧ ¬ (i = 0 ∧ ((43 ≤ j ∧ j ≤ 48) ∨ j = 50 ∨ j = 51 ∨ j = 70 ∨ j = 71 ∨ j = 74)) → m' i j = m i j := fun i j q => by
    rw [mf i j (by omega) (by omega) (by omega) (by omega) (by omega)]
    by_cases e : i = 0
    · subst e; exact s0 j (by omega) (by omega) (by omega) (by omega) (by omega) (by omega) (by omega) (by omega)
    · rw [sr i e (by omega)]
  have m43 : m' 0 43 = 0 := by rw [mf 0 43 (by decide) (by decide) (by decide) (by decide) (by omega)]; exact s43
  have m29 : m' 29 = shB m x1 29 := funext fun j => mf 29 j (by decide) (by decide) (by decide) (by decide) (by omega)
  have m28 : m' 28 = m 28 := funext fun j => hm 28 j (by omega)
  have h11' : rv' 0 11 = some p1 := by rw [hr 0 11 (by omega)]; exact g2
  have n40 : ∀ j, rv' 40 j = rv 40 j := fun j => hr 40 j (by omega)
  show Z G mX11_sheet (30 + 10) 0 0 32 [vr (some 0), vi x1, vr (some p2)] [] (mkC c' rv') _
  refine Z.fg (L' := [vr (some 0), vu, vr (some p2)]) ⟨Or.inl rfl, Or.inr rfl, Or.inl rfl, trivial⟩ ?_
  apply sX11_sheet_32 hR' hp2 hp1 h11'
  rw [pf.1, pf.2.1]
  refine ⟨fun z => ?_, fun z => ⟨_, _, rfl, cm _ (fun _ => M_sheetE (fun e => absurd e z) pf.2.2 (fun _ => QM_i rfl (RL_B (B := B) ?_ (by omega))) (fun e => absurd e z))⟩⟩
  · obtain ⟨pr, pm, bl, hh⟩ := ok z
    have hR2 : RC (ru (ru rv' 0 12 (some p1)) 0 11 (some p2)) := RC_0 (RC_0 hR' (by decide)) (by decide)
    have r2 : ∀ i j, i ≠ 0 → ru (ru rv' 0 12 (some p1)) 0 11 (some p2) i j = rv' i j := fun i j q => by rw [ru_o q, ru_o q]
    have h3' : ru (ru rv' 0 12 (some p1)) 0 11 (some p2) 40 3 = some a := by rw [r2 40 3 (by decide), n40]; exact g6.1
    apply sX5_forgetMarks_0 hR2 h3' (mA_s g6).1
    show Z G mX11_sheet (30 + 10) 0 0 92 [vr (some 0), vu, vr (some p2)] [] (mkC (ifill (iu (iu (iu (iu c' 0 10 0) 0 14 (m' 0 51)) 0 15 (m' 0 50)) 0 13 1) a 0 8 (-1)) (ru (ru rv' 0 12 (some p1)) 0 11 (some p2))) _
    apply sX11_sheet_92 hR2 hp2
    have hcc : ∀ i j, i ≠ a ∧ ¬ (i = 0 ∧ (j = 10 ∨ j = 13 ∨ j = 14 ∨ j = 15)) → ifill (iu (iu (iu (iu c' 0 10 0) 0 14 (m' 0 51)) 0 15 (m' 0 50)) 0 13 1) a 0 8 (-1) i j = c' i j := fun i j q => by
      rw [ifill_row q.1, iu_ap, if_neg (by omega), iu_ap, if_neg (by omega), iu_ap, if_neg (by omega), iu_ap, if_neg (by omega)]
    have hca : ∀ j, j < 8 → ifill (iu (iu (iu (iu c' 0 10 0) 0 14 (m' 0 51)) 0 15 (m' 0 50)) 0 13 1) a 0 8 (-1) a j = -1 := fun j q => by rw [ifill_ap, if_pos ⟨rfl, by omega, q⟩]
    have hc0 : ifill (iu (iu (iu (iu c' 0 10 0) 0 14 (m' 0 51)) 0 15 (m' 0 50)) 0 13 1) a 0 8 (-1) 0 10 = 0 ∧ ifill (iu (iu (iu (iu c' 0 10 0) 0 14 (m' 0 51)) 0 15 (m' 0 50)) 0 13 1) a 0 8 (-1) 0 14 = m' 0 51 ∧ ifill (iu (iu (iu (iu c' 0 10 0) 0 14 (m' 0 51)) 0 15 (m' 0 50)) 0 13 1) a 0 8 (-1) 0 15 = m' 0 50 ∧ ifill (iu (iu (iu (iu c' 0 10 0) 0 14 (m' 0 51)) 0 15 (m' 0 50)) 0 13 1) a 0 8 (-1) 0 13 = 1 := by
      rw [ifill_row (by omega)]
      refine ⟨?_, ?_, ?_, iu_eq⟩
      · rw [iu_k (by decide), iu_k (by decide), iu_k (by decide)]; exact iu_eq
      · rw [iu_k (by decide), iu_k (by decide)]; exact iu_eq
      · rw [iu_k (by decide)]; exact iu_eq
    generalize ifill (iu (iu (iu (iu c' 0 10 0) 0 14 (m' 0 51)) 0 15 (m' 0 50)) 0 13 1) a 0 8 (-1) = c2 at *
    have e11 : c2 p2 11 = m' 0 70 := by rw [hcc p2 11 (by omega)]; exact pr.2.2.2.1
    rw [e11]
    refine ⟨_, _, rfl, cm _ (fun wfa => M_sheetE (fun _ => pm.2.1) pf.2.2 (fun e => absurd z e) (fun _ => QM_i rfl (RL_B (B := B) ?_ (by omega))))⟩
    obtain ⟨wb, nb⟩ := wfa z
    obtain ⟨⟨v68, v69, v49, v52, v00⟩, vw, v47, vo⟩ := shV_f (m := m')
    have mt := pm.1.2.2
    have p70 := pm.2.1
    generalize shV m' = m2 at *
    have mm : ∀ i j, i ≠ 29 ∧ ¬ (30 ≤ i ∧ i ≤ 47) ∧ ¬ (i = 0 ∧ (j = 0 ∨ (43 ≤ j ∧ j ≤ 52) ∨ (68 ≤ j ∧ j ≤ 74))) → m2 i j = m i j := fun i j q => by rw [vo i j (by omega)]; exact hm i j (by omega)
    have cc : ∀ i j, ¬ (p2 ≤ i ∧ i < p2 + 64) ∧ i ≠ a ∧ ¬ (i = 0 ∧ (j = 10 ∨ j = 13 ∨ j = 14 ∨ j = 15)) → c2 i j = c i j := fun i j q => by rw [hcc i j q.2]; exact hc i j q.1
    have ms : iu m2 0 0 0 = m2 := by rw [← v00]; exact iu_self
    have bw : ∀ (i w : Int), 0 ≤ i → i < m' 0 70 → 0 ≤ w → w < 12 → bM m2 (12 * i + w).toNat = m' 42 (12 * i + w).toNat := fun i w i0 i1 w0 w1 => by
      rw [bM_at i0 ⟨w0, w1⟩, vw w.toNat i.toNat (by omega) (by omega)]
      congr 1; omega
    have aw : ∀ (i : Int) (w : Nat), 0 ≤ i → i < m' 0 70 → w < 12 → m2 (30 + w) i.toNat = m' 42 (12 * i + (w : Int)).toNat := fun i w i0 i1 w1 => by
      rw [vw w i.toNat w1 (by omega)]
      congr 1; omega
    have main : RL B c2 (ru (ru rv' 0 12 (some p1)) 0 11 (some p2)) (iu m2 0 0 (c2 0 17)) := by
      have mm' : ∀ i j, i ≠ 29 ∧ ¬ (30 ≤ i ∧ i ≤ 47) ∧ ¬ (i = 0 ∧ (j = 0 ∨ (43 ≤ j ∧ j ≤ 52) ∨ (68 ≤ j ∧ j ≤ 74))) → iu m2 0 0 (c2 0 17) i j = m i j := fun i j q => by rw [iu_ap, if_neg (by omega)]; exact mm i j q
      have mo : ∀ i j, ¬ (i = 0 ∧ j = 0) → iu m2 0 0 (c2 0 17) i j = m2 i j := fun i j q => by rw [iu_ap, if_neg q]
      refine ⟨hR2, by rw [iu_eq], RT_f a2 (fun i j q => cc i j (by omega)) (fun i j q => mm' i j (by omega)), RS_f a3 (fun i j q => cc i j (by omega)) (fun i j q => mm' i j (by omega)), RR_f a4 (fun j => cc _ _ (by omega)) (mm' _ _ (by omega)) (mm' _ _ (by omega)), RP_f a5 (fun i j q => cc i j (by omega)) (fun i j q => mm' i j (by omega)), RSd_f a6 (fun i j q => cc i j (by omega)) (fun i j q => mm' i j (by omega)), RB_f a7 (fun i j q => cc i j (by omega)), RO_f a8 (fun i j q => cc i j (by omega)), RK_f a9 (fun i j q => cc i j (by omega)) (fun i j q => mm' i j (by omega)), RN_f a10 (fun i j q => cc i j (by omega)) (fun i j q => mm' i j (by omega)), ⟨?_, ?_, fun k k0 k1 => ?_, ?_, ?_, ?_⟩, ⟨⟨?_, ?_⟩, ?_, ?_⟩, ⟨p2, p1, a, b, a', b', by omega, ?_, ?_, ⟨?_, ?_⟩, fun _ => ?_, ⟨h3', ?_, gab⟩, ⟨?_, ?_⟩, g8, fun k k0 k1 => ?_, ?_⟩⟩
      · rw [hc0.1, mo 0 43 (by omega), vo 0 43 (by omega), m43]
      · rw [mo 0 43 (by omega), vo 0 43 (by omega), m43]; decide
      · rw [mo 0 43 (by omega), vo 0 43 (by omega), m43] at k1; omega
      · rw [show c2 54 = c 54 from funext fun j => cc 54 j (by omega)]; exact f4
      · rw [show iu m2 0 0 (c2 0 17) 28 = m 28 from funext fun j => mm' 28 j (by omega)]; exact f5
      · rw [show iu m2 0 0 (c2 0 17) 29 = shB m x1 29 from funext fun j => by rw [mo 29 j (by omega), vo 29 j (by omega), m29]]; exact hw
      · rw [hc0.2.1, mo 0 49 (by omega), v49]
      · rw [hc0.2.2.1, mo 0 50 (by omega), vo 0 50 (by omega)]
      · rw [cc 40 9 (by omega), mm' 0 79 (by omega)]; exact a12.2.1
      · rw [cc 40 10 (by omega), mm' 0 80 (by omega)]; exact a12.2.2
      · exact ru_eq
      · rw [ru_k (by decide)]; exact ru_eq
      · rw [hc0.2.2.2, mo 0 52 (by omega), v52]
      · rw [mo 0 52 (by omega), v52]; exact Or.inr rfl
      · have eb : bM (iu m2 0 0 (c2 0 17)) = bM m2 := bM_f (fun i j x y => mo i j (by omega))
        unfold ShR
        rw [eb, mo 0 68 (by omega), mo 0 69 (by omega), v68, v69]
        refine ⟨hp2, p70, mt, ?_, ?_, fun i i0 i1 => ⟨?_, ?_, ?_⟩⟩
        · refine Blk_c 4 _ _ bl (by omega) (fun i il ir => ⟨fun j => r2 _ j (by omega), ?_, bw i 7 il ir (by omega) (by omega), bw i 8 il ir (by omega) (by omega)⟩)
          have := bw i 0 il ir (by omega) (by omega)
          rw [show 12 * i + 0 = 12 * i by omega] at this
          exact this
        · rw [r2 p2 10 (by omega)]; exact hh
        · have se := pr.2.2.2.2.2 z i i0 i1
          unfold stE at se
          have ce : ∀ j, c2 (p2 + 2 + i.toNat) j = c' (p2 + 2 + i.toNat) j := fun j => hcc _ j (by omega)
          have q0 := aw i 0 i0 i1 (by decide)
          have q1 := aw i 1 i0 i1 (by decide)
          have q2 := aw i 2 i0 i1 (by decide)
          have q3 := aw i 3 i0 i1 (by decide)
          have q4 := aw i 4 i0 i1 (by decide)
          have q5 := aw i 5 i0 i1 (by decide)
          have q6 := aw i 6 i0 i1 (by decide)
          have q9 := aw i 9 i0 i1 (by decide)
          have q10 := aw i 10 i0 i1 (by decide)
          have q11 := aw i 11 i0 i1 (by decide)
          unfold stR
          rw [ce, ce, ce, ce, ce, ce, ce, ce, ce, ce, mo 30 _ (by omega), mo 31 _ (by omega), mo 32 _ (by omega), mo 33 _ (by omega), mo 34 _ (by omega), mo 35 _ (by omega), mo 36 _ (by omega), mo 39 _ (by omega), mo 40 _ (by omega), mo 41 _ (by omega)]
          simp only [show 30 + 0 = 30 from rfl, show 30 + 1 = 31 from rfl, show 30 + 2 = 32 from rfl, show 30 + 3 = 33 from rfl, show 30 + 4 = 34 from rfl, show 30 + 5 = 35 from rfl, show 30 + 6 = 36 from rfl, show 30 + 9 = 39 from rfl, show 30 + 10 = 40 from rfl, show 30 + 11 = 41 from rfl] at q0 q1 q2 q3 q4 q5 q6 q9 q10 q11
          rw [q0, q1, q2, q3, q4, q5, q6, q9, q10, q11]
          exact se
        · exact WF1_c (wb.2 i i0 i1) (fun w w0 w1 _ _ => bw i w i0 i1 w0 w1)
        · rw [mo 41 _ (by omega)]
          have q11 := aw i 11 i0 i1 (by decide)
          rw [show 30 + 11 = 41 from rfl] at q11
          rw [q11]
          exact nb.2 i i0 i1
      · rw [r2 40 4 (by decide), n40]; exact g6.2.1
      · rw [r2 40 5 (by decide), n40]; exact g7.1
      · rw [r2 40 6 (by decide), n40]; exact g7.2
      · rw [hca _ (by omega), mo 47 _ (by omega), v47 _ (by omega)]
        exact ⟨rfl, fun e => absurd rfl e, fun _ => rfl⟩
      · rw [mo 0 69 (by omega), v69]; exact mt
    have fin := RL_f (c' := iu c2 0 17 0) (m' := m2) main (fun i j q => by unfold cS at q; rw [iu_ap, if_neg (by omega)]) (fun i j q => by unfold mS at q; rw [iu_ap, if_neg (by omega)]) (by rw [iu_eq, v00])
    exact fin
  · have hcc : ∀ i j, ¬ (i = 0 ∧ (j = 10 ∨ j = 14 ∨ j = 15 ∨ j = 17)) → iu (iu (iu (iu c' 0 10 0) 0 14 (m' 0 51)) 0 15 (m' 0 50)) 0 17 9 i j = c' i j := fun i j q => by
      rw [iu_ap, if_neg (by omega), iu_ap, if_neg (by omega), iu_ap, if_neg (by omega), iu_ap, if_neg (by omega)]
    have hmm : ∀ i j, ¬ (i = 0 ∧ (j = 0 ∨ j = 49)) → iu (iu m' 0 49 (m' 0 51)) 0 0 9 i j = m' i j := fun i j q => by rw [iu_ap, if_neg (by omega), iu_ap, if_neg (by omega)]
    have hc0 : iu (iu (iu (iu c' 0 10 0) 0 14 (m' 0 51)) 0 15 (m' 0 50)) 0 17 9 0 10 = 0 ∧ iu (iu (iu (iu c' 0 10 0) 0 14 (m' 0 51)) 0 15 (m' 0 50)) 0 17 9 0 14 = m' 0 51 ∧ iu (iu (iu (iu c' 0 10 0) 0 14 (m' 0 51)) 0 15 (m' 0 50)) 0 17 9 0 15 = m' 0 50 := by
      refine ⟨?_, ?_, ?_⟩
      · rw [iu_k (by decide), iu_k (by decide), iu_k (by decide)]; exact iu_eq
      · rw [iu_k (by decide), iu_k (by decide)]; exact iu_eq
      · rw [iu_k (by decide)]; exact iu_eq
    have m49 : iu (iu m' 0 49 (m' 0 51)) 0 0 9 0 49 = m' 0 51 := by rw [iu_k (by decide)]; exact iu_eq
    have u0 : iu (iu (iu (iu c' 0 10 0) 0 14 (m' 0 51)) 0 15 (m' 0 50)) 0 17 9 0 17 = iu (iu m' 0 49 (m' 0 51)) 0 0 9 0 0 := by rw [iu_eq, iu_eq]
    generalize iu (iu (iu (iu c' 0 10 0) 0 14 (m' 0 51)) 0 15 (m' 0 50)) 0 17 9 = c2 at *
    generalize iu (iu m' 0 49 (m' 0 51)) 0 0 9 = m2 at *
    have cc : ∀ i j, ¬ (p2 ≤ i ∧ i < p2 + 64) ∧ ¬ (i = 0 ∧ (j = 10 ∨ j = 14 ∨ j = 15 ∨ j = 17)) → c2 i j = c i j := fun i j q => by rw [hcc i j q.2]; exact hc i j q.1
    have mm : ∀ i j, i ≠ 29 ∧ ¬ (42 ≤ i ∧ i ≤ 46) ∧ ¬ (i = 0 ∧ (j = 0 ∨ (43 ≤ j ∧ j ≤ 51) ∨ (70 ≤ j ∧ j ≤ 74))) → m2 i j = m i j := fun i j q => by rw [hmm i j (by omega)]; exact hm i j (by omega)
    refine ⟨hR', u0, RT_f a2 (fun i j q => cc i j (by omega)) (fun i j q => mm i j (by omega)), RS_f a3 (fun i j q => cc i j (by omega)) (fun i j q => mm i j (by omega)), RR_f a4 (fun j => cc _ _ (by omega)) (mm _ _ (by omega)) (mm _ _ (by omega)), RP_f a5 (fun i j q => cc i j (by omega)) (fun i j q => mm i j (by omega)), RSd_f a6 (fun i j q => cc i j (by omega)) (fun i j q => mm i j (by omega)), RB_f a7 (fun i j q => cc i j (by omega)), RO_f a8 (fun i j q => cc i j (by omega)), RK_f a9 (fun i j q => cc i j (by omega)) (fun i j q => mm i j (by omega)), RN_f a10 (fun i j q => cc i j (by omega)) (fun i j q => mm i j (by omega)), ⟨?_, ?_, fun k k0 k1 => ?_, ?_, ?_, ?_⟩, ⟨⟨?_, ?_⟩, ?_, ?_⟩, ⟨p1, p2, a, b, a', b', g1, h11', ?_, ?_, fun e => ?_, ⟨?_, ?_, gab⟩, ⟨?_, ?_⟩, g8, mkR_f g9 (fun i j q => cc i j (by omega)) (fun i j q => mm i j (by omega)), ?_⟩⟩
    · rw [hc0.1, hmm 0 43 (by omega), m43]
    · rw [hmm 0 43 (by omega), m43]; decide
    · rw [hmm 0 43 (by omega), m43] at k1; omega
    · rw [show c2 54 = c 54 from funext fun j => cc 54 j (by omega)]; exact f4
    · rw [show m2 28 = m 28 from funext fun j => mm 28 j (by omega)]; exact f5
    · rw [show m2 29 = shB m x1 29 from funext fun j => by rw [hmm 29 j (by omega), m29]]; exact hw
    · rw [hc0.2.1, m49]
    · rw [hc0.2.2, hmm 0 50 (by omega)]
    · rw [cc 40 9 (by omega), mm 0 79 (by omega)]; exact a12.2.1
    · rw [cc 40 10 (by omega), mm 0 80 (by omega)]; exact a12.2.2
    · rw [hr 0 12 (by omega)]; exact g3
    · rw [cc 0 13 (by omega), mm 0 52 (by omega)]; exact g4
    · rw [mm 0 52 (by omega)] at e
      exact ShR_f (g5 e) (fun i j x y => cc i j (by omega)) (fun i j x y => hr i j (by omega)) (fun i j q => mm i j (by omega))
    · rw [n40]; exact g6.1
    · rw [n40]; exact g6.2.1
    · rw [n40]; exact g7.1
    · rw [n40]; exact g7.2
    · rw [mm 0 69 (by omega)]; exact g10

