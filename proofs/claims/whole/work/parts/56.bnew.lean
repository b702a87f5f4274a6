/-! ===== adding the newest ===== -/
theorem pI_feas {w v : Nat → Nat → Int} {k ur up : Int} (hw : wOk w) (h : pI w v k ur up) (hV : ∃ V, SB w V) : (∀ r p, bK w r p → bcv v r p ≤ bcv w r p + 200) ∧ k + v 24 7 ≤ 160001 := by
  obtain ⟨V, hV⟩ := hV
  obtain ⟨W, hW, -, bW⟩ := hw.2.2.2 V hV
  have b : ∀ r p, bK w r p → bcv v r p ≤ bcv w r p + 200 := fun r p a => by
    have a1 := h.2.2.2.1 W hW r p a
    have a2 := bW r p a
    omega
  refine ⟨b, ?_⟩
  have s := sumA_le (f := v 26) (g := w 26) (b := 200) (by omega) 800 (fun j hj => by
    by_cases c : bK w ((j : Int) / 400) ((j : Int) % 400)
    · have := b _ _ c
      unfold bcv at this
      rw [show (400 * ((j : Int) / 400) + (j : Int) % 400).toNat = j by omega] at this
      exact this
    · have := h.2.2.2.2.2.1 (j : Int) (by omega) (by omega) c
      rw [Int.toNat_natCast] at this
      omega)
  have := h.2.2.2.2.2.2.1
  omega
theorem pI_done {w v : Nat → Nat → Int} {k : Int} (hw : wOk w) (h : pI w v k (-1) (-1)) (h0 : v 24 7 = 0) : SB w (bcv v) ∧ (∀ V, SB w V → ∀ r p, bK w r p → bcv v r p ≤ V r p) ∧ (∀ r p, bK w r p → 0 ≤ bcv v r p ∧ bcv v r p ≤ bcv w r p + 200) := by
  have nw : ∀ u : Int, 0 ≤ u → u < 800 → v 28 u.toNat = 0 := by
    intro u a b
    apply Classical.byContradiction
    intro n
    obtain ⟨i, i0, i1, -⟩ := h.2.1.2.2.2.2.2 u a b n
    omega
  have s : SB w (bcv v) := by
    refine ⟨fun r p a => (h.2.2.2.2.2.2.2.1 r p a).1, fun r p r' p' x a b e => ?_⟩
    rcases h.2.2.2.2.1 r p r' p' x a b e with y | y | y
    · exact y
    · exact absurd (nw _ (bK_n hw.1 a).1.1 (bK_n hw.1 a).1.2) y
    · exfalso; have := bK_n hw.1 a; omega
  exact ⟨s, h.2.2.2.1, fun r p a => ⟨(h.2.2.2.2.2.2.2.1 r p a).1, (pI_feas hw h ⟨_, s⟩).1 r p a⟩⟩
theorem pI_deq {w v : Nat → Nat → Int} {k : Int} (hw : wOk w) (h : pI w v k (-1) (-1)) (h0 : 0 < v 24 7) : (0 ≤ qAt v 0 ∧ qAt v 0 < 800) ∧ bK w (qAt v 0 / 400) (qAt v 0 % 400) ∧ pI w (deq v) (k + 1) (qAt v 0 / 400) (qAt v 0 % 400) := by
  obtain ⟨g1, g2, g3, g4, g5, g6, g7, g8, g9⟩ := h
  have z := g2.2.2.2.1 0 (by omega) h0
  have q0 : v 27 (v 24 6).toNat = qAt v 0 := by
    unfold qAt; rw [show (v 24 6 + 0) % 800 = v 24 6 by have := g2.1; omega]
  obtain ⟨e6, e7, e28, er⟩ := deq_e (v := v)
  rw [q0] at e28
  have e26 : (deq v) 26 = v 26 := er 26 (by decide) (by decide)
  have ev : bcv (deq v) = bcv v := by unfold bcv; rw [e26]
  have bz := g3 _ z.1.1 z.1.2 z.2
  refine ⟨z.1, bz, ?_, qI_deq g2 h0, fun u a b c => ?_, ?_, fun r p r' p' x a b e => ?_, ?_, ?_, ?_, ?_⟩
  · intro i j a1 a2 a3 a4
    by_cases e : i = 24
    · subst e
      unfold deq
      rw [iu_k (by omega), iu_o (by decide), iu_k (by omega)]
      exact g1 24 j a1 a2 a3 a4
    · rw [er i e a3]; exact g1 i j a1 a2 a3 a4
  · rw [e28] at c
    split at c
    · exact absurd rfl c
    · exact g3 u a b c
  · rw [ev]; exact g4
  · rw [ev]
    rcases g5 r p r' p' x a b e with y | y | y
    · exact Or.inl y
    · have nb := bK_n hw.1 a
      rw [e28]
      by_cases c : (400 * r + p).toNat = (qAt v 0).toNat
      · right; right
        have : qAt v 0 = 400 * r + p := by omega
        rw [this]; omega
      · right; left; rw [if_neg c]; exact y
    · exfalso; have := bK_n hw.1 a; omega
  · rw [e26]; exact g6
  · rw [e26, e7]; omega
  · rw [ev]; intro r p a; have := g8 r p a; omega
  · rw [e26]; exact g9
theorem C_addLoop {G : ZG} {d : Nat} {w v : Nat → Nat → Int} {K : Option AV → AH → Prop} {rv : Nat → Nat → Option Nat} (hR : RC rv) (hw : wOk w) (h : pI w v 0 (-1) (-1)) (k1 : ∀ v', bF w v' → qI v' → v' 24 7 = 0 → v' 26 (w 24 8).toNat = w 26 (w 24 8).toNat → (SB w (bcv v') ∧ (∀ V, SB w V → ∀ r p, bK w r p → bcv v' r p ≤ V r p) ∧ (∀ r p, bK w r p → 0 ≤ bcv v' r p ∧ bcv v' r p ≤ bcv w r p + 200)) → K (some (vi 1)) (mkC v' rv)) (k0 : ∀ v', bF w v' → (¬ ∃ V, SB w V) → K (some (vi 0)) (mkC v' rv)) : Z G mX0_addNewest (d + 4) 0 0 45 [vr (some 24), vu, vu, vi 0, vu] [] (mkC v rv) K := by
  refine lp_up (P := fun j v => Z G mX0_addNewest (d + 4) 0 0 45 [vr (some 24), vu, vu, vi j, vu] [] (mkC v rv) K) 1000000 (fun j v => 0 ≤ j ∧ pI w v j (-1) (-1)) ?_ ?_ 0 v (by omega) ⟨by omega, h⟩
  · rintro v ⟨-, q⟩
    apply sX0_addNewest_45 hR
    refine ⟨fun _ => ⟨fun n => k0 v q.1 (fun z => ?_), fun e => k1 v q.1 q.2.1 e q.2.2.2.2.2.2.2.2 (pI_done hw q e)⟩, fun z => by omega⟩
    have := (pI_feas hw q z).2
    have := q.2.1.2.1
    omega
  · rintro j v hj ⟨j0, q⟩ ih
    have q2 := q.2.1.2.1
    apply sX0_addNewest_45 hR
    refine ⟨fun z => by omega, fun _ => ⟨fun le => ⟨fun n => by omega, fun e => k1 v q.1 q.2.1 e q.2.2.2.2.2.2.2.2 (pI_done hw q e)⟩, fun lt => ?_⟩⟩
    obtain ⟨z1, z2, z3⟩ := pI_deq hw q lt
    have q0 : v 27 (v 24 6).toNat = qAt v 0 := by
      unfold qAt; rw [show (v 24 6 + 0) % 800 = v 24 6 by have := q.2.1.1; omega]
    have le : v 24 7 ≤ 800 := by
      have := cntf_r (P := fun i => ¬ v 28 i.toNat = 0) 800
      have e := q.2.1.2.2.1
      omega
    rw [q0]
    refine ⟨q.2.1.1, ⟨q2, le⟩, z1, ?_⟩
    have d1 : (qAt v 0).tdiv 400 = qAt v 0 / 400 := Int.tdiv_eq_ediv_of_nonneg z1.1
    have d2 : (qAt v 0).tmod 400 = qAt v 0 % 400 := Int.tmod_eq_emod_of_nonneg z1.1
    rw [d1, d2]
    have fg : ∀ (y : AV) (v' : Nat → Nat → Int), Z G mX0_addNewest (d + 4) 0 0 80 [vr (some 24), vu, vu, vi j, vu] [y] (mkC v' rv) K → Z G mX0_addNewest (d + 4) 0 0 80 [vr (some 24), vu, vu, vi j, vi (qAt v 0)] [y] (mkC v' rv) K := fun y v' q => Z.fg (L' := [vr (some 24), vu, vu, vi j, vu]) ⟨Or.inl rfl, Or.inl rfl, Or.inl rfl, Or.inl rfl, Or.inr rfl, trivial⟩ q
    refine C_passOn hR hw ⟨by omega, by omega⟩ z3 z2 ?_ (fun v' i' => ?_) (fun v' f' z => ?_)
    · have := (q.2.2.2.2.2.2.2.1 _ _ z2).2
      have e26 : (deq v) 26 = v 26 := deq_e.2.2.2 26 (by decide) (by decide)
      have ev : bcv (deq v) = bcv v := by unfold bcv; rw [e26]
      rw [ev]; omega
    · apply fg
      apply sX0_addNewest_80 hR
      exact ⟨fun _ => ⟨by omega, ih v' ⟨by omega, i'⟩⟩, fun z => absurd z (by decide)⟩
    · apply fg
      apply sX0_addNewest_80 hR
      exact ⟨fun n => absurd rfl n, fun _ => k0 v' f' z⟩

