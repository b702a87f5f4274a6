/-! ===== reading in step: tests, the model ===== -/
theorem M_tests {G : ZG} {d : Nat} {iv : Nat → Nat → Int} {K : Option AV → AH → Prop} {x1 : Int} (hi : 0 ≤ x1 ∧ x1 < 60) (h : MT iv) (k : K none (mkM (testV x1 iv))) : Z G mX12_tests (d + 6) 0 0 0 [vr (some 0), vi x1, vu, vu] [] (mkM iv) K := by
  have tx := h.1
  have px : ∀ v, MT v → (0 ≤ v 0 47 ∧ v 0 47 ≤ v 0 44) ∧ v 0 44 ≤ 600 ∧ bOK (v 29) := fun v q => ⟨by have := q.1.1; omega, q.1.1.2.2.2, q.1.2⟩
  have u9 : ∀ x, MT (iu iv 42 (12 * x1 + 9).toNat x) := fun x => MT_u h
  have n9 : ∀ x, MT (nx (iu iv 42 (12 * x1 + 9).toNat x)) := fun x => MT_nx (u9 x)
  have u10 : ∀ x, MT (iu (nx (iu iv 42 (12 * x1 + 9).toNat x)) 42 (12 * x1 + 10).toNat (nx (iu iv 42 (12 * x1 + 9).toNat x) 0 48)) := fun x => MT_u (n9 x)
  -- parts and room
  have sgnT : ∀ x : Int, testV x1 iv = (if nx (iu iv 42 (12 * x1 + 9).toNat x) 0 45 = 4 ∧ (nx (iu iv 42 (12 * x1 + 9).toNat x) 0 48 = 60 ∨ nx (iu iv 42 (12 * x1 + 9).toNat x) 0 48 = 62) then iu (numV 0 9999 (nx (iu (nx (iu iv 42 (12 * x1 + 9).toNat x)) 42 (12 * x1 + 10).toNat (nx (iu iv 42 (12 * x1 + 9).toNat x) 0 48)))).2 42 (12 * x1 + 1).toNat (numV 0 9999 (nx (iu (nx (iu iv 42 (12 * x1 + 9).toNat x)) 42 (12 * x1 + 10).toNat (nx (iu iv 42 (12 * x1 + 9).toNat x) 0 48)))).1 else mfail 2 (nx (iu iv 42 (12 * x1 + 9).toNat x))) → (nx (iu iv 42 (12 * x1 + 9).toNat x) 0 45 = 4 ∧ (nx (iu iv 42 (12 * x1 + 9).toNat x) 0 48 = 60 ∨ nx (iu iv 42 (12 * x1 + 9).toNat x) 0 48 = 62) → ∀ r v, numR 0 9999 (nx (iu (nx (iu iv 42 (12 * x1 + 9).toNat x)) 42 (12 * x1 + 10).toNat (nx (iu iv 42 (12 * x1 + 9).toNat x) 0 48))) r v → K none (mkM (iu v 42 (12 * x1 + 1).toNat r))) ∧ (¬ (nx (iu iv 42 (12 * x1 + 9).toNat x) 0 45 = 4 ∧ (nx (iu iv 42 (12 * x1 + 9).toNat x) 0 48 = 60 ∨ nx (iu iv 42 (12 * x1 + 9).toNat x) 0 48 = 62)) → K none (mkM (mfail 2 (nx (iu iv 42 (12 * x1 + 9).toNat x))))) := by
    intro x e
    refine ⟨fun y r v nr => ?_, fun n => ?_⟩
    · obtain ⟨er, ev⟩ := numR_e nr
      rw [e, if_pos y] at k
      rw [er, ev]; exact k
    · rw [e, if_neg n] at k; exact k
  apply sX12_tests_0
  refine ⟨tx, fun n13 => ⟨tx, fun n14 => ⟨tx, fun n12 => ?_, fun y => ?_⟩, fun y => ?_⟩, fun y => ?_⟩
  · have : testV x1 iv = mfail 2 iv := by unfold testV; rw [if_neg n12, if_neg (by omega)]
    rw [this] at k; exact k
  · refine ⟨hi, by omega, (px _ (u9 2)).1, (px _ (u9 2)).2.1, (px _ (u9 2)).2.2, (n9 2).1, fun z => ((n9 2).2.1 z).2, (n9 2).2.2, fun r v nr => ⟨hi, by omega, ?_⟩⟩
    obtain ⟨er, ev⟩ := nameR_e nr
    have : testV x1 iv = iu v 42 (12 * x1 + 11).toNat r := by unfold testV; rw [if_pos y, ← er, ← ev]
    rw [this] at k; exact k
  · have g := sgnT 1 (by
      conv => lhs; unfold testV
      rw [if_neg (by omega), if_pos (Or.inr y), if_neg (show ¬ wM iv = 13 by omega)])
    refine ⟨hi, by omega, (px _ (u9 1)).1, (px _ (u9 1)).2.1, (px _ (u9 1)).2.2, fun a => ⟨hi, by omega, (px _ (u10 1)).1, (px _ (u10 1)).2.1, (px _ (u10 1)).2.2, (MT_nx (u10 1)).1, fun r v nr => ⟨hi, by omega, g.1 ⟨a.1, Or.inl a.2⟩ r v nr⟩⟩, fun a => ⟨fun b => ⟨hi, by omega, (px _ (u10 1)).1, (px _ (u10 1)).2.1, (px _ (u10 1)).2.2, (MT_nx (u10 1)).1, fun r v nr => ⟨hi, by omega, g.1 ⟨b.1, Or.inr b.2⟩ r v nr⟩⟩, fun b => g.2 (fun z => z.2.elim (fun q => a ⟨z.1, q⟩) (fun q => b ⟨z.1, q⟩))⟩⟩
  · have g := sgnT 0 (by
      conv => lhs; unfold testV
      rw [if_neg (by omega), if_pos (Or.inl y), if_pos y])
    refine ⟨hi, by omega, (px _ (u9 0)).1, (px _ (u9 0)).2.1, (px _ (u9 0)).2.2, fun a => ⟨hi, by omega, (px _ (u10 0)).1, (px _ (u10 0)).2.1, (px _ (u10 0)).2.2, (MT_nx (u10 0)).1, fun r v nr => ⟨hi, by omega, g.1 ⟨a.1, Or.inl a.2⟩ r v nr⟩⟩, fun a => ⟨fun b => ⟨hi, by omega, (px _ (u10 0)).1, (px _ (u10 0)).2.1, (px _ (u10 0)).2.2, (MT_nx (u10 0)).1, fun r v nr => ⟨hi, by omega, g.1 ⟨b.1, Or.inr b.2⟩ r v nr⟩⟩, fun b => g.2 (fun z => z.2.elim (fun q => a ⟨z.1, q⟩) (fun q => b ⟨z.1, q⟩))⟩⟩

