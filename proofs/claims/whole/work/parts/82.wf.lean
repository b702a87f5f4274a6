/-! ===== reading in step: what a step's row holds ===== -/
theorem nx42 {m : Nat → Nat → Int} : nx m 42 = m 42 := nx_f.1 42 (by decide)
theorem fl42 {k : Int} {m : Nat → Nat → Int} : mfail k m 42 = m 42 := mfail_f.1 42 (by decide)
theorem num42 {l g : Int} {m : Nat → Nat → Int} : (numV l g m).2 42 = m 42 := by
  unfold numV
  split
  · exact nx42
  · exact fl42
theorem name42 {m : Nat → Nat → Int} : (nameV m).2 42 = m 42 := by
  unfold nameV
  split
  · split
    · exact fl42
    · split
      · dsimp only
        rw [nx42, iu_row (by decide), iu_row (by decide)]
      · exact nx42
  · exact fl42
/-- the steps before the newest, and its kind, stay -/
def q42 (i : Int) (m v : Nat → Nat → Int) : Prop := ∀ j, j ≤ (12 * i).toNat → v 42 j = m 42 j
theorem q_e {i : Int} {m v w : Nat → Nat → Int} (h : q42 i m v) (e : w 42 = v 42) : q42 i m w := fun j a => by rw [e]; exact h j a
theorem q_r {i : Int} {m : Nat → Nat → Int} : q42 i m m := fun _ _ => rfl
theorem q_u {i x : Int} {m v : Nat → Nat → Int} {j : Nat} (h : q42 i m v) (hj : (12 * i).toNat < j) : q42 i m (iu v 42 j x) := fun q a => by rw [iu_k (by omega)]; exact h q a
theorem q_t {i : Int} {m v w : Nat → Nat → Int} (h : q42 i m v) (h' : q42 i v w) : q42 i m w := fun j a => by rw [h' j a, h j a]
theorem q_test {i : Int} {m : Nat → Nat → Int} (hi : 0 ≤ i) : q42 i m (testV i m) := by
  unfold testV
  split
  · exact q_u (q_e (q_e (q_u q_r (by omega)) nx42) name42) (by omega)
  · split
    · generalize (if wM m = 13 then (0 : Int) else 1) = x
      split
      · exact q_u (q_e (q_e (q_u (q_e (q_u q_r (by omega)) nx42) (by omega)) nx42) num42) (by omega)
      · exact q_e (q_e (q_u q_r (by omega)) nx42) fl42
    · exact q_e q_r fl42
theorem q_opt1 {i : Int} {m : Nat → Nat → Int} (hi : 0 ≤ i) : q42 i m (opt1 i m) := by
  unfold opt1
  split
  · exact q_e q_r fl42
  · split
    · exact q_e q_r fl42
    · have := oIx_r (wM m)
      exact q_u (q_e (q_e q_r nx42) num42) (by omega)
theorem q_opt {i : Int} (hi : 0 ≤ i) : ∀ (k : Nat) (m : Nat → Nat → Int), q42 i m (optV i k m)
  | 0, m => q_r
  | k + 1, m => by
    unfold optV
    split
    · exact q_t (q_opt1 hi) (q_opt hi k _)
    · exact q_r
theorem q_mid {kd i : Int} {m : Nat → Nat → Int} (hi : 0 ≤ i) : q42 i m (midV kd i m) := by
  unfold midV
  split
  · exact q_u (q_e q_r name42) (by omega)
  · split
    · exact q_test hi
    · exact q_u (q_e q_r num42) (by omega)
theorem q_optW {kd i : Int} {m : Nat → Nat → Int} (hi : 0 ≤ i) : q42 i m (optW kd i m) := by
  unfold optW
  split
  · exact q_opt hi 5 m
  · exact q_r
theorem nws42 {m : Nat → Nat → Int} {kd : Int} (hi : 0 ≤ m 0 70) : (∀ j, j < (12 * m 0 70).toNat → nws m kd 42 j = m 42 j) ∧ nws m kd 42 (12 * m 0 70).toNat = kd := by
  unfold nws
  rw [nx42]
  constructor
  · intro j a
    rw [iu_k (by omega), iu_k (by omega)]
    unfold ifill
    rw [if_neg (by omega), iu_o (by decide)]
  · rw [iu_k (by omega), show (12 * m 0 70 + 0) = 12 * m 0 70 by omega]; exact iu_eq
def WF1 (b : Nat → Int) (i : Int) : Prop := (0 ≤ b (12 * i).toNat ∧ b (12 * i).toNat ≤ 6) ∧ (b (12 * i).toNat = 0 → 0 ≤ b (12 * i + 1).toNat ∧ b (12 * i + 1).toNat ≤ 1) ∧ (b (12 * i).toNat = 1 → 1 ≤ b (12 * i + 1).toNat ∧ b (12 * i + 1).toNat ≤ 100) ∧ ((b (12 * i).toNat = 2 ∨ b (12 * i).toNat = 3 ∨ b (12 * i).toNat = 5) → 0 ≤ b (12 * i + 1).toNat ∧ b (12 * i + 1).toNat ≤ 9) ∧ (b (12 * i).toNat = 2 → (-1 ≤ b (12 * i + 2).toNat ∧ b (12 * i + 2).toNat ≤ 59) ∧ (b (12 * i + 3).toNat = -1 ∨ (1 ≤ b (12 * i + 3).toNat ∧ b (12 * i + 3).toNat ≤ 60)) ∧ (-1 ≤ b (12 * i + 4).toNat ∧ b (12 * i + 4).toNat ≤ 40) ∧ (b (12 * i + 5).toNat = -1 ∨ (1 ≤ b (12 * i + 5).toNat ∧ b (12 * i + 5).toNat ≤ 60))) ∧ (b (12 * i).toNat = 4 → 0 ≤ b (12 * i + 11).toNat ∧ b (12 * i + 11).toNat ≤ 7) ∧ (b (12 * i).toNat = 6 → (b (12 * i + 9).toNat = 2 ∧ (0 ≤ b (12 * i + 11).toNat ∧ b (12 * i + 11).toNat ≤ 7)) ∨ ((b (12 * i + 9).toNat = 0 ∨ b (12 * i + 9).toNat = 1) ∧ (b (12 * i + 10).toNat = 60 ∨ b (12 * i + 10).toNat = 62) ∧ (0 ≤ b (12 * i + 1).toNat ∧ b (12 * i + 1).toNat ≤ 9999)))
theorem WF1_c {b b' : Nat → Int} {i : Int} (h : WF1 b i) (e : ∀ w : Int, 0 ≤ w → w < 12 → w ≠ 7 → w ≠ 8 → b' (12 * i + w).toNat = b (12 * i + w).toNat) : WF1 b' i := by
  have e0 := e 0 (by omega) (by omega) (by omega) (by omega)
  rw [show 12 * i + 0 = 12 * i by omega] at e0
  unfold WF1 at *
  rw [e0, e 1 (by omega) (by omega) (by omega) (by omega), e 2 (by omega) (by omega) (by omega) (by omega), e 3 (by omega) (by omega) (by omega) (by omega), e 4 (by omega) (by omega) (by omega) (by omega), e 5 (by omega) (by omega) (by omega) (by omega), e 9 (by omega) (by omega) (by omega) (by omega), e 10 (by omega) (by omega) (by omega) (by omega), e 11 (by omega) (by omega) (by omega) (by omega)]
  exact h
def WFB (m : Nat → Nat → Int) : Prop := 0 ≤ m 0 70 ∧ ∀ i : Int, 0 ≤ i → i < m 0 70 → WF1 (m 42) i
theorem num_r {l g : Int} {m : Nat → Nat → Int} (z : (numV l g m).2 0 51 = 0) : l ≤ (numV l g m).1 ∧ (numV l g m).1 ≤ g := by
  unfold numV at *
  split at z
  · rename_i h; rw [if_pos h]; exact h.2
  · exact absurd z (mfail_51 (by split <;> omega))
theorem name_r {m : Nat → Nat → Int} (h71 : 0 ≤ m 0 71 ∧ m 0 71 ≤ 8) (z : (nameV m).2 0 51 = 0) : 0 ≤ (nameV m).1 ∧ (nameV m).1 ≤ 7 := by
  have r : 0 ≤ nmI m (nmP m) ∧ nmI m (nmP m) ≤ m 0 71 := by
    unfold nmI
    split
    · omega
    · rename_i g
      have := ffirst_r (P := fun i => m 44 i.toNat = nmP m) (m 0 71).toNat 0 (by omega)
      omega
  unfold nameV at *
  split at z
  · rename_i h
    rw [if_pos h]
    split at z
    · exact absurd z (mfail_51 (by omega))
    · rename_i h8
      rw [if_neg h8]
      split <;> (dsimp only; omega)
  · exact absurd z (mfail_51 (by omega))
theorem nx_51 {m : Nat → Nat → Int} : nx m 0 51 = m 0 51 := nx_f.2 51 (by decide) (by decide) (by decide) (by decide)
theorem fail_k {k : Int} {m : Nat → Nat → Int} (h : ¬ m 0 51 = 0) (hk : 0 < k) : ¬ mfail k m 0 51 = 0 := mfail_51 hk
/-- a new row -/
theorem nws_row {m : Nat → Nat → Int} {kd : Int} (hi : 0 ≤ m 0 70) : ∀ w : Int, 1 ≤ w → w < 12 → w ≠ 6 → nws m kd 42 (12 * m 0 70 + w).toNat = -1 := by
  intro w a b c
  unfold nws
  rw [nx42, iu_k (by omega), iu_k (by omega)]
  unfold ifill
  rw [if_pos ⟨rfl, by omega, by omega⟩]
/-- options stay in their bounds -/
def opB (b : Nat → Int) (i : Int) : Prop := (-1 ≤ b (12 * i + 2).toNat ∧ b (12 * i + 2).toNat ≤ 59) ∧ (b (12 * i + 3).toNat = -1 ∨ (1 ≤ b (12 * i + 3).toNat ∧ b (12 * i + 3).toNat ≤ 60)) ∧ (-1 ≤ b (12 * i + 4).toNat ∧ b (12 * i + 4).toNat ≤ 40) ∧ (b (12 * i + 5).toNat = -1 ∨ (1 ≤ b (12 * i + 5).toNat ∧ b (12 * i + 5).toNat ≤ 60))
theorem opt1_b {i : Int} {m : Nat → Nat → Int} (hi : 0 ≤ i) (h : opB (m 42) i) (z : opt1 i m 0 51 = 0) : opB (opt1 i m 42) i ∧ opt1 i m 42 (12 * i + 1).toNat = m 42 (12 * i + 1).toNat := by
  unfold opt1 at *
  split at z
  · exact absurd z (mfail_51 (by omega))
  · split at z
    · exact absurd z (mfail_51 (by omega))
    · rename_i h1 h2
      rw [if_neg h1, if_neg h2]
      rw [iu_o (by decide)] at z
      have r := num_r z
      have ox := oIx_r (wM m)
      generalize oIx (wM m) = x at *
      have hx : (x = 2 ∧ oL x = 0 ∧ oG x = 59) ∨ (x = 3 ∧ oL x = 1 ∧ oG x = 60) ∨ (x = 4 ∧ oL x = 0 ∧ oG x = 40) ∨ (x = 5 ∧ oL x = 1 ∧ oG x = 60) := by
        have : x = 2 ∨ x = 3 ∨ x = 4 ∨ x = 5 := by omega
        rcases this with e | e | e | e <;> subst e <;> decide
      generalize (numV (oL x) (oG x) (nx m)).1 = y at *
      have row : ∀ w : Int, 0 ≤ w → w < 12 → iu (numV (oL x) (oG x) (nx m)).2 42 (12 * i + x).toNat y 42 (12 * i + w).toNat = if w = x then y else m 42 (12 * i + w).toNat := by
        intro w a b
        by_cases g : w = x
        · rw [if_pos g, g]; exact iu_eq
        · rw [if_neg g, iu_k (by omega), num42, nx42]
      unfold opB at *
      rw [row 1 (by omega) (by omega), row 2 (by omega) (by omega), row 3 (by omega) (by omega), row 4 (by omega) (by omega), row 5 (by omega) (by omega)]
      refine ⟨⟨?_, ?_, ?_, ?_⟩, by rw [if_neg (by omega)]⟩
      all_goals (split <;> omega)
theorem opt_b {i : Int} (hi : 0 ≤ i) : ∀ (k : Nat) (m : Nat → Nat → Int), opB (m 42) i → optV i k m 0 51 = 0 → opB (optV i k m 42) i ∧ optV i k m 42 (12 * i + 1).toNat = m 42 (12 * i + 1).toNat
  | 0, m, h, z => ⟨h, rfl⟩
  | k + 1, m, h, z => by
    unfold optV at *
    by_cases g : m 0 51 = 0 ∧ m 0 45 = 2
    · rw [if_pos g] at z ⊢
      by_cases y : opt1 i m 0 51 = 0
      · have a := opt1_b hi h y
        have b := opt_b hi k _ a.1 z
        exact ⟨b.1, by rw [b.2, a.2]⟩
      · exfalso
        apply y
        cases k with
        | zero => exact z
        | succ k => unfold optV at z; rw [if_neg (fun q => y q.1)] at z; exact z
    · rw [if_neg g] at z ⊢
      exact ⟨h, rfl⟩
theorem knd_r (w : Int) (h : -1 ≤ w ∧ w ≤ 14) (n : ¬ knd w = -1) : 0 ≤ knd w ∧ knd w ≤ 6 := by
  unfold knd at *; split at n <;> (try split) <;> omega
/-- the row of a step that has been read -/
theorem step_w {m : Nat → Nat → Int} {kd : Int} (h : MT m) (hi : 0 ≤ m 0 70) (hk : 0 ≤ kd ∧ kd ≤ 6) (z2 : midV kd (m 0 70) (nws m kd) 0 51 = 0) (z3 : optW kd (m 0 70) (midV kd (m 0 70) (nws m kd)) 0 51 = 0) : WF1 (optW kd (m 0 70) (midV kd (m 0 70) (nws m kd)) 42) (m 0 70) := by
  have n42 := (nws42 (m := m) (kd := kd) hi).2
  have nr := nws_row (m := m) (kd := kd) hi
  have nf := nws_f (kd := kd) h
  have q2 := q_mid (kd := kd) (m := nws m kd) hi
  have k2 : midV kd (m 0 70) (nws m kd) 42 (12 * m 0 70).toNat = kd := by rw [q2 _ (by omega), n42]
  have mt1 := nf.1
  generalize nws m kd = m1 at *
  generalize m 0 70 = i at *
  -- what the middle wrote
  have mid : (kd = 4 ∧ (0 ≤ midV kd i m1 42 (12 * i + 11).toNat ∧ midV kd i m1 42 (12 * i + 11).toNat ≤ 7)) ∨ (kd = 6 ∧ ((midV kd i m1 42 (12 * i + 9).toNat = 2 ∧ (0 ≤ midV kd i m1 42 (12 * i + 11).toNat ∧ midV kd i m1 42 (12 * i + 11).toNat ≤ 7)) ∨ ((midV kd i m1 42 (12 * i + 9).toNat = 0 ∨ midV kd i m1 42 (12 * i + 9).toNat = 1) ∧ (midV kd i m1 42 (12 * i + 10).toNat = 60 ∨ midV kd i m1 42 (12 * i + 10).toNat = 62) ∧ (0 ≤ midV kd i m1 42 (12 * i + 1).toNat ∧ midV kd i m1 42 (12 * i + 1).toNat ≤ 9999)))) ∨ (kd ≠ 4 ∧ kd ≠ 6 ∧ (kL kd ≤ midV kd i m1 42 (12 * i + 1).toNat ∧ midV kd i m1 42 (12 * i + 1).toNat ≤ kG kd) ∧ ∀ w : Int, 2 ≤ w → w < 12 → midV kd i m1 42 (12 * i + w).toNat = m1 42 (12 * i + w).toNat) := by
    unfold midV at *
    by_cases e4 : kd = 4
    · left
      rw [if_pos e4] at z2 ⊢
      rw [iu_o (by decide)] at z2
      rw [iu_eq]
      exact ⟨e4, name_r mt1.2.2 z2⟩
    · rw [if_neg e4] at z2 ⊢
      by_cases e6 : kd = 6
      · right; left
        rw [if_pos e6] at z2 ⊢
        refine ⟨e6, ?_⟩
        unfold testV at *
        by_cases w12 : wM m1 = 12
        · left
          rw [if_pos w12] at z2 ⊢
          rw [iu_o (by decide)] at z2
          have t := MT_nx (MT_u (j := (12 * i + 9).toNat) (x := 2) mt1)
          have nm := name_r t.2.2 z2
          rw [iu_eq, iu_k (by omega), name42, nx42, iu_eq]
          exact ⟨rfl, nm⟩
        · rw [if_neg w12] at z2 ⊢
          by_cases w13 : wM m1 = 13 ∨ wM m1 = 14
          · right
            rw [if_pos w13] at z2 ⊢
            have hx : (if wM m1 = 13 then (0 : Int) else 1) = 0 ∨ (if wM m1 = 13 then (0 : Int) else 1) = 1 := by split <;> omega
            generalize (if wM m1 = 13 then (0 : Int) else 1) = x at *
            split at z2
            · rename_i g
              rw [if_pos g, iu_eq]
              rw [iu_o (by decide)] at z2
              rw [iu_k (by omega), iu_k (by omega), num42, nx42, iu_eq, iu_k (by omega), nx42, iu_eq]
              exact ⟨hx, g.2, num_r z2⟩
            · exact absurd z2 (mfail_51 (by omega))
          · rw [if_neg w13] at z2; exact absurd z2 (mfail_51 (by omega))
      · right; right
        rw [if_neg e6] at z2 ⊢
        rw [iu_o (by decide)] at z2
        refine ⟨e4, e6, by rw [iu_eq]; exact num_r z2, fun w a b => by rw [iu_k (by omega), num42]⟩
  generalize midV kd i m1 = m2 at *
  unfold optW at *
  by_cases e2 : kd = 2
  · rw [if_pos e2] at z3 ⊢
    have qo := q_opt hi 5 m2
    rcases mid with g | g | ⟨-, -, g1, g2⟩
    · omega
    · omega
    · have ob : opB (m2 42) i := by
        unfold opB
        rw [g2 2 (by omega) (by omega), g2 3 (by omega) (by omega), g2 4 (by omega) (by omega), g2 5 (by omega) (by omega), nr 2 (by omega) (by omega) (by omega), nr 3 (by omega) (by omega) (by omega), nr 4 (by omega) (by omega) (by omega), nr 5 (by omega) (by omega) (by omega)]
        omega
      obtain ⟨b1, b2⟩ := opt_b hi 5 m2 ob z3
      unfold opB at b1
      have e0 := qo (12 * i).toNat (by omega)
      rw [k2] at e0
      unfold kL kG at g1
      unfold WF1
      rw [e0, b2]
      subst e2
      refine ⟨by omega, by omega, by omega, fun _ => by simpa using g1, fun _ => b1, by omega, by omega⟩
  · rw [if_neg e2] at z3 ⊢
    unfold WF1
    rw [k2]
    rcases mid with ⟨g, g1⟩ | ⟨g, g1⟩ | ⟨g4, g6, g1, -⟩
    · subst g; exact ⟨by omega, by omega, by omega, by omega, by omega, fun _ => g1, by omega⟩
    · subst g; exact ⟨by omega, by omega, by omega, by omega, by omega, by omega, fun _ => g1⟩
    · unfold kL kG at g1
      refine ⟨hk, fun e => ?_, fun e => ?_, fun e => ?_, fun e => absurd e e2, fun e => absurd e g4, fun e => absurd e g6⟩
      · subst e; simpa using g1
      · subst e; simpa using g1
      · have n0 : ¬ kd = 0 := by omega
        have n1 : ¬ kd = 1 := by omega
        rw [if_neg n1, if_neg n0, if_neg n1] at g1; exact g1
theorem nn_fail {k : Int} {m : Nat → Nat → Int} (hk : 0 < k) : 0 ≤ mfail k m 0 51 := by
  unfold mfail
  split
  · omega
  · rw [mfl_f.2.2.1]; split <;> omega
theorem nn_num {l g : Int} {m : Nat → Nat → Int} (h : 0 ≤ m 0 51) : 0 ≤ (numV l g m).2 0 51 := by
  unfold numV
  split
  · dsimp only; rw [nx_51]; exact h
  · exact nn_fail (by split <;> omega)
theorem nn_name {m : Nat → Nat → Int} (h : 0 ≤ m 0 51) : 0 ≤ (nameV m).2 0 51 := by
  unfold nameV
  split
  · split
    · exact nn_fail (by omega)
    · split
      · dsimp only; rw [nx_51, iu_k (by decide), iu_o (by decide)]; exact h
      · dsimp only; rw [nx_51]; exact h
  · exact nn_fail (by omega)
theorem nn_mid {kd i : Int} {m : Nat → Nat → Int} (h : 0 ≤ m 0 51) : 0 ≤ midV kd i m 0 51 := by
  unfold midV
  split
  · rw [iu_o (by decide)]; exact nn_name h
  · split
    · unfold testV
      split
      · rw [iu_o (by decide)]; exact nn_name (by rw [nx_51, iu_o (by decide)]; exact h)
      · split
        · generalize (if wM m = 13 then (0 : Int) else 1) = x
          split
          · rw [iu_o (by decide)]; exact nn_num (by rw [nx_51, iu_o (by decide), nx_51, iu_o (by decide)]; exact h)
          · exact nn_fail (by omega)
        · exact nn_fail (by omega)
    · rw [iu_o (by decide)]; exact nn_num h
theorem WFB_step {m : Nat → Nat → Int} (h : MT m) (w : WFB m) (z0 : m 0 51 = 0) (z : (stepV m).2 0 51 = 0) : WFB (stepV m).2 := by
  have wr : -1 ≤ wM m ∧ wM m ≤ 14 := (wn_r (b := m 29) (t := m 0 45) (a := m 0 46) (e := m 0 47)).1
  have i0 := w.1
  unfold stepV at *
  by_cases g0 : knd (wM m) = -1
  · rw [if_pos g0] at z; exact absurd z (mfail_51 (by omega))
  rw [if_neg g0] at z ⊢
  by_cases g1 : m 0 70 = 60 ∨ 4 ≤ m 0 74
  · rw [if_pos g1] at z; exact absurd z (mfail_51 (by omega))
  rw [if_neg g1] at z ⊢
  have hk := knd_r (wM m) wr g0
  have mf := mid_f (kd := knd (wM m)) (i := m 0 70) (nws_f (kd := knd (wM m)) h).1
  have of := optW_f (kd := knd (wM m)) (i := m 0 70) mf.2
  have m1q := nws42 (m := m) (kd := knd (wM m)) i0
  have n70 := (nws_f (kd := knd (wM m)) h).2.2
  have sw := step_w (kd := knd (wM m)) h i0 hk
  have nm := nn_mid (kd := knd (wM m)) (i := m 0 70) (m := nws m (knd (wM m))) (by rw [(nws_f (kd := knd (wM m)) h).2.1 0 51 (by decide) (by omega), z0]; omega)
  have qq := q_t (q_mid (kd := knd (wM m)) (m := nws m (knd (wM m))) i0) (q_optW (kd := knd (wM m)) (m := midV (knd (wM m)) (m 0 70) (nws m (knd (wM m)))) i0)
  generalize nws m (knd (wM m)) = m1 at *
  generalize midV (knd (wM m)) (m 0 70) m1 = m2 at *
  by_cases g2 : 0 < m2 0 51
  · rw [if_pos g2] at z; dsimp only at z; omega
  rw [if_neg g2] at z ⊢
  generalize optW (knd (wM m)) (m 0 70) m2 = m3 at *
  by_cases g3 : 0 < m3 0 51
  · rw [if_pos g3] at z; dsimp only at z; omega
  rw [if_neg g3] at z ⊢
  have e70 : m3 0 70 = m 0 70 + 1 := by rw [of.1 0 70 (by decide) (by decide) (by omega), mf.1 0 70 (by decide) (by decide) (by omega)]; exact n70
  -- both ends keep the rows
  have fin : (endV (knd (wM m)) (m 0 70) m3).2 0 70 = m 0 70 + 1 ∧ (endV (knd (wM m)) (m 0 70) m3).2 42 = m3 42 ∧ m3 0 51 = 0 := by
    have nx70 : nx m3 0 70 = m 0 70 + 1 := by rw [nx_f.2 70 (by decide) (by decide) (by decide) (by decide)]; exact e70
    unfold endV at *
    split at z
    · rename_i c
      rw [if_pos c]
      split at z
      · rename_i c2
        rw [if_pos c2]
        unfold pushV at *
        dsimp only at z ⊢
        rw [iu_k (by decide), iu_o (by decide), iu_o (by decide), nx_51] at z
        refine ⟨?_, ?_, z⟩
        · rw [iu_k (by decide), iu_o (by decide), iu_o (by decide)]; exact nx70
        · rw [iu_row (by decide), iu_row (by decide), iu_row (by decide)]; exact nx42
      · exact absurd z (mfail_51 (by omega))
    · rename_i c
      rw [if_neg c]
      split at z
      · rename_i c2
        rw [if_pos c2]
        dsimp only at z ⊢
        rw [nx_51] at z
        exact ⟨nx70, nx42, z⟩
      · exact absurd z (mfail_51 (by omega))
  obtain ⟨f70, f42, z3⟩ := fin
  refine ⟨by rw [f70]; omega, fun i a b => ?_⟩
  rw [f70] at b
  rw [f42]
  by_cases e : i = m 0 70
  · subst e
    exact sw (by omega) z3
  · refine WF1_c (w.2 i a (by omega)) (fun x x0 x1 _ _ => ?_)
    rw [qq _ (by omega), m1q.1 _ (by omega)]
theorem WFB_e {m v : Nat → Nat → Int} (w : WFB m) (e70 : v 0 70 = m 0 70) (e42 : ∀ j, (∀ i : Int, 0 ≤ i → j ≠ (12 * i + 7).toNat ∧ j ≠ (12 * i + 8).toNat) → v 42 j = m 42 j) : WFB v := by
  refine ⟨by rw [e70]; exact w.1, fun i a b => ?_⟩
  rw [e70] at b
  exact WF1_c (w.2 i a b) (fun x x0 x1 x7 x8 => e42 _ (fun t t0 => by omega))
theorem WFB_close {m : Nat → Nat → Int} (w : WFB m) (hi : 0 ≤ m 45 (m 0 74 - 1).toNat) (z : (closeV m).2 0 51 = 0) : WFB (closeV m).2 := by
  have n70 : nx m 0 70 = m 0 70 := nx_f.2 70 (by decide) (by decide) (by decide) (by decide)
  have wn : WFB (nx m) := WFB_e w n70 (fun j _ => by rw [nx42])
  unfold closeV at *
  generalize m 45 (m 0 74 - 1).toNat = i at *
  have wc : WFB (cl2 i (nx m)) := WFB_e wn (by rw [cl2_f 0 (by decide)]) (fun j g => by unfold cl2; rw [iu_k (g i hi).2, iu_k (g i hi).1])
  have w74 : ∀ {v x}, WFB v → WFB (iu v 0 74 x) := fun h => WFB_e h (iu_k (by decide)) (fun j _ => iu_o (by decide))
  split
  · exact w74 (WFB_e wn (iu_o (by decide)) (fun j g => iu_k (g i hi).2))
  · split
    · exact w74 wc
    · split
      · exact w74 wc
      · have n2 : ∀ {v}, WFB v → WFB (nx v) := fun h => WFB_e h (nx_f.2 70 (by decide) (by decide) (by decide) (by decide)) (fun j _ => by rw [nx42])
        have w46 : ∀ {v j x}, WFB v → WFB (iu v 46 j x) := fun h => WFB_e h (iu_o (by decide)) (fun j _ => iu_o (by decide))
        split
        · exact n2 (w46 (n2 wc))
        · exact WFB_e (w46 (n2 wc)) (mfail_f.2 70 (by decide) (by decide)) (fun j _ => by dsimp only; rw [fl42])
/-- names that steps speak of are counted -/
def NB (m : Nat → Nat → Int) : Prop := 0 ≤ m 0 71 ∧ ∀ i : Int, 0 ≤ i → i < m 0 70 → m 42 (12 * i + 11).toNat < m 0 71
def NM (m v : Nat → Nat → Int) : Prop := v 0 70 = m 0 70 ∧ m 0 71 ≤ v 0 71 ∧ ∀ i : Int, 0 ≤ i → v 42 (12 * i + 11).toNat = m 42 (12 * i + 11).toNat ∨ v 42 (12 * i + 11).toNat < v 0 71
theorem NM_r {m : Nat → Nat → Int} : NM m m := ⟨rfl, Int.le_refl _, fun _ _ => Or.inl rfl⟩
theorem NM_t {m v w : Nat → Nat → Int} (h : NM m v) (h' : NM v w) : NM m w := by
  obtain ⟨a1, a2, a3⟩ := h
  obtain ⟨b1, b2, b3⟩ := h'
  refine ⟨by omega, by omega, fun i i0 => ?_⟩
  have x := a3 i i0
  have y := b3 i i0
  omega
theorem NM_of {m v : Nat → Nat → Int} (e70 : v 0 70 = m 0 70) (e71 : v 0 71 = m 0 71) (e42 : v 42 = m 42) : NM m v := ⟨e70, by omega, fun i _ => Or.inl (by rw [e42])⟩
theorem NM_nx {m : Nat → Nat → Int} : NM m (nx m) := NM_of (nx_f.2 70 (by decide) (by decide) (by decide) (by decide)) (nx_f.2 71 (by decide) (by decide) (by decide) (by decide)) nx42
theorem NM_fail {k : Int} {m : Nat → Nat → Int} : NM m (mfail k m) := NM_of (mfail_f.2 70 (by decide) (by decide)) (mfail_f.2 71 (by decide) (by decide)) fl42
theorem NM_num {l g : Int} {m : Nat → Nat → Int} : NM m (numV l g m).2 := by
  unfold numV
  split
  · exact NM_nx
  · exact NM_fail
theorem NM_u {m : Nat → Nat → Int} {j : Nat} {x : Int} (hj : ∀ i : Int, 0 ≤ i → (12 * i + 11).toNat ≠ j) : NM m (iu m 42 j x) := ⟨iu_o (by decide), by rw [iu_o (by decide)]; omega, fun i i0 => Or.inl (iu_k (hj i i0))⟩
theorem NM_x {m : Nat → Nat → Int} {j : Nat} {x : Int} (hx : x < m 0 71) : NM m (iu m 42 j x) := by
  refine ⟨iu_o (by decide), by rw [iu_o (by decide)]; omega, fun i i0 => ?_⟩
  rw [iu_o (i := 0) (by decide)]
  by_cases g : (12 * i + 11).toNat = j
  · right; rw [g, iu_eq]; exact hx
  · left; exact iu_k g
theorem NM_o {m : Nat → Nat → Int} {a j : Nat} {x : Int} (ha : a ≠ 0 ∨ j = 74) (hb : a ≠ 42) : NM m (iu m a j x) := by
  refine NM_of ?_ ?_ (iu_row (Ne.symm hb))
  · rw [iu_ap, if_neg (by omega)]
  · rw [iu_ap, if_neg (by omega)]
theorem nameV_b {m : Nat → Nat → Int} (h71 : 0 ≤ m 0 71) : NM m (nameV m).2 ∧ (nameV m).1 < (nameV m).2 0 71 := by
  have r : 0 ≤ nmI m (nmP m) ∧ nmI m (nmP m) ≤ m 0 71 := by
    unfold nmI
    split
    · omega
    · rename_i g
      have := ffirst_r (P := fun i => m 44 i.toNat = nmP m) (m 0 71).toNat 0 (by omega)
      omega
  have f2 : ∀ k : Int, mfail k m 0 71 = m 0 71 := fun k => mfail_f.2 71 (by decide) (by decide)
  unfold nameV
  split
  · split
    · exact ⟨NM_fail, by dsimp only; rw [f2]; omega⟩
    · split
      · dsimp only
        refine ⟨⟨?_, ?_, fun i _ => Or.inl ?_⟩, ?_⟩
        · rw [nx_f.2 70 (by decide) (by decide) (by decide) (by decide), iu_k (by decide), iu_o (by decide)]
        · rw [nx_f.2 71 (by decide) (by decide) (by decide) (by decide), iu_eq]; omega
        · rw [nx42, iu_o (by decide), iu_o (by decide)]
        · rw [nx_f.2 71 (by decide) (by decide) (by decide) (by decide), iu_eq]; omega
      · dsimp only
        exact ⟨NM_nx, by rw [nx_f.2 71 (by decide) (by decide) (by decide) (by decide)]; omega⟩
  · exact ⟨NM_fail, by dsimp only; rw [f2]; omega⟩
theorem NM_mid {kd i : Int} {m : Nat → Nat → Int} (hi : 0 ≤ i) (h71 : 0 ≤ m 0 71) : NM m (midV kd i m) := by
  unfold midV
  split
  · have b := nameV_b h71
    exact NM_t b.1 (NM_x b.2)
  · split
    · unfold testV
      split
      · have n1 : NM m (nx (iu m 42 (12 * i + 9).toNat 2)) := NM_t (NM_u (fun t t0 => by omega)) NM_nx
        have b := nameV_b (m := nx (iu m 42 (12 * i + 9).toNat 2)) (by have := n1.2.1; omega)
        exact NM_t n1 (NM_t b.1 (NM_x b.2))
      · split
        · generalize (if wM m = 13 then (0 : Int) else 1) = x
          have n1 : NM m (nx (iu m 42 (12 * i + 9).toNat x)) := NM_t (NM_u (fun t t0 => by omega)) NM_nx
          split
          · exact NM_t n1 (NM_t (NM_u (fun t t0 => by omega)) (NM_t NM_nx (NM_t NM_num (NM_u (fun t t0 => by omega)))))
          · exact NM_t n1 NM_fail
        · exact NM_fail
    · exact NM_t NM_num (NM_u (fun t t0 => by omega))
theorem NM_opt {i : Int} (hi : 0 ≤ i) : ∀ (k : Nat) (m : Nat → Nat → Int), NM m (optV i k m)
  | 0, m => NM_r
  | k + 1, m => by
    unfold optV
    split
    · refine NM_t ?_ (NM_opt hi k _)
      unfold opt1
      split
      · exact NM_fail
      · split
        · exact NM_fail
        · have := oIx_r (wM m)
          exact NM_t NM_nx (NM_t NM_num (NM_u (fun t t0 => by omega)))
    · exact NM_r
theorem NM_optW {kd i : Int} {m : Nat → Nat → Int} (hi : 0 ≤ i) : NM m (optW kd i m) := by
  unfold optW
  split
  · exact NM_opt hi 5 m
  · exact NM_r
theorem NM_end {kd i : Int} {m : Nat → Nat → Int} : NM m (endV kd i m).2 := by
  unfold endV
  split
  · split
    · unfold pushV
      exact NM_t NM_nx (NM_t (NM_o (Or.inl (by decide)) (by decide)) (NM_t (NM_o (Or.inl (by decide)) (by decide)) (NM_o (Or.inr rfl) (by decide))))
    · exact NM_fail
  · split
    · exact NM_nx
    · exact NM_fail
theorem NB_m {m v : Nat → Nat → Int} (h : NB m) (h' : NM m v) : NB v := by
  obtain ⟨a, b, c⟩ := h'
  refine ⟨by have := h.1; omega, fun i i0 i1 => ?_⟩
  have x := h.2 i i0 (by omega)
  have y := c i i0
  omega
theorem NB_step {m : Nat → Nat → Int} (h : NB m) (t : MT m) (i0 : 0 ≤ m 0 70) : NB (stepV m).2 := by
  have wr : NB (nws m (knd (wM m))) := by
    have f := nws_f (kd := knd (wM m)) t
    have e71 : nws m (knd (wM m)) 0 71 = m 0 71 := f.2.1 0 71 (by decide) (by omega)
    refine ⟨by rw [e71]; exact h.1, fun i a b => ?_⟩
    rw [f.2.2] at b
    rw [e71]
    by_cases e : i = m 0 70
    · subst e
      rw [nws_row i0 11 (by omega) (by omega) (by omega)]
      have := h.1; omega
    · rw [(nws42 i0).1 _ (by omega)]
      exact h.2 i a (by omega)
  have w2 := NB_m wr (NM_mid (kd := knd (wM m)) i0 wr.1)
  have w3 := NB_m w2 (NM_optW (kd := knd (wM m)) i0)
  unfold stepV
  split
  · exact NB_m h NM_fail
  · split
    · exact NB_m h NM_fail
    · split
      · exact w2
      · split
        · exact w3
        · exact NB_m w3 NM_end
theorem NB_close {m : Nat → Nat → Int} (h : NB m) (hi : 0 ≤ m 45 (m 0 74 - 1).toNat) : NB (closeV m).2 := by
  refine NB_m h ?_
  unfold closeV
  generalize m 45 (m 0 74 - 1).toNat = i at *
  have c2 : ∀ v, NM v (cl2 i v) := fun v => by
    unfold cl2
    exact NM_t (NM_u (fun t t0 => by omega)) (NM_u (fun t t0 => by omega))
  split
  · exact NM_t NM_nx (NM_t (NM_u (fun t t0 => by omega)) (NM_o (Or.inr rfl) (by decide)))
  · split
    · exact NM_t NM_nx (NM_t (c2 _) (NM_o (Or.inr rfl) (by decide)))
    · split
      · exact NM_t NM_nx (NM_t (c2 _) (NM_o (Or.inr rfl) (by decide)))
      · split
        · exact NM_t NM_nx (NM_t (c2 _) (NM_t NM_nx (NM_t (NM_o (Or.inl (by decide)) (by decide)) NM_nx)))
        · exact NM_t NM_nx (NM_t (c2 _) (NM_t NM_nx (NM_t (NM_o (Or.inl (by decide)) (by decide)) NM_fail)))
def WFA (m : Nat → Nat → Int) : Prop := WFB m ∧ NB m
theorem WFA_step {m : Nat → Nat → Int} (h : MT m) (w : WFA m) (z0 : m 0 51 = 0) (z : (stepV m).2 0 51 = 0) : WFA (stepV m).2 := ⟨WFB_step h w.1 z0 z, NB_step w.2 h w.1.1⟩
theorem WFA_close {m : Nat → Nat → Int} (w : WFA m) (hi : 0 ≤ m 45 (m 0 74 - 1).toNat) (z : (closeV m).2 0 51 = 0) : WFA (closeV m).2 := ⟨WFB_close w.1 hi z, NB_close w.2 hi⟩

