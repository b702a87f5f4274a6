/-! ===== reading in step: the steps that hold steps, the class ===== -/
/-- the model behind the brace of a step that holds steps -/
noncomputable def opnV (m : Nat → Nat → Int) : Nat → Nat → Int := pushV (m 0 70) (nx (midV (knd (wM m)) (m 0 70) (nws m (knd (wM m)))))
theorem opn_f {m : Nat → Nat → Int} (h : PM m) (z : m 0 51 = 0) (hk : knd (wM m) = 5 ∨ knd (wM m) = 6) (l60 : m 0 70 < 60) (l4 : m 0 74 < 4) (z2 : midV (knd (wM m)) (m 0 70) (nws m (knd (wM m))) 0 51 = 0) : (isS (midV (knd (wM m)) (m 0 70) (nws m (knd (wM m)))) 123 → (stepV m).2 = opnV m) ∧ PM (opnV m) ∧ opnV m 0 51 = 0 ∧ opnV m 0 74 = m 0 74 + 1 ∧ opnV m 0 70 = m 0 70 + 1 ∧ opnV m 45 (m 0 74).toNat = m 0 70 ∧ opnV m 46 (m 0 74).toNat = 0 ∧ (∀ t : Int, 0 ≤ t → t < m 0 74 → opnV m 45 t.toNat = m 45 t.toNat ∧ opnV m 46 t.toNat = m 46 t.toNat) ∧ (∀ j, j < (12 * m 0 70).toNat → opnV m 42 j = m 42 j) ∧ opnV m 42 (12 * m 0 70).toNat = knd (wM m) ∧ mF m (opnV m) := by
  have i0 := h.2.1
  have s0 := h.2.2.1
  have nw := nws_f (kd := knd (wM m)) h.1
  have n42 := nws42 (m := m) (kd := knd (wM m)) i0.1
  have b := mid_f (kd := knd (wM m)) (i := m 0 70) nw.1
  have bq := q_mid (kd := knd (wM m)) (m := nws m (knd (wM m))) i0.1
  have ef := step_fin (m := m) (by omega) (by omega)
  unfold finV at ef
  rw [if_neg (by omega)] at ef
  have eo : optW (knd (wM m)) (m 0 70) (midV (knd (wM m)) (m 0 70) (nws m (knd (wM m)))) = midV (knd (wM m)) (m 0 70) (nws m (knd (wM m))) := by unfold optW; rw [if_neg (by omega)]
  rw [eo, if_neg (by omega)] at ef
  unfold opnV
  have mf := mF_nws (kd := knd (wM m)) h.1
  generalize midV (knd (wM m)) (m 0 70) (nws m (knd (wM m))) = m2 at *
  generalize nws m (knd (wM m)) = m1 at *
  have e74 : nx m2 0 74 = m 0 74 := by rw [nx_f.2 74 (by decide) (by decide) (by decide) (by decide), b.1 0 74 (by decide) (by decide) (by omega)]; exact nw.2.1 0 74 (by decide) (by omega)
  have e70 : nx m2 0 70 = m 0 70 + 1 := by rw [nx_f.2 70 (by decide) (by decide) (by decide) (by decide), b.1 0 70 (by decide) (by decide) (by omega)]; exact nw.2.2
  have e51 : nx m2 0 51 = 0 := by rw [nx_f.2 51 (by decide) (by decide) (by decide) (by decide)]; exact z2
  have e45 : ∀ j, nx m2 45 j = m 45 j := fun j => by rw [nx_f.1 45 (by decide), b.1 45 j (by decide) (by decide) (by omega)]; exact nw.2.1 45 j (by decide) (by omega)
  have e46 : ∀ j, nx m2 46 j = m 46 j := fun j => by rw [nx_f.1 46 (by decide), b.1 46 j (by decide) (by decide) (by omega)]; exact nw.2.1 46 j (by decide) (by omega)
  have e42 : ∀ j, pushV (m 0 70) (nx m2) 42 j = m2 42 j := fun j => by unfold pushV; rw [iu_o (by decide), iu_o (by decide), iu_o (by decide), nx42]
  have p45 : ∀ j, pushV (m 0 70) (nx m2) 45 j = if j = (m 0 74).toNat then m 0 70 else m 45 j := fun j => by
    unfold pushV; rw [iu_o (by decide), iu_o (by decide), iu_i, e45, e74]
  have p46 : ∀ j, pushV (m 0 70) (nx m2) 46 j = if j = (m 0 74).toNat then 0 else m 46 j := fun j => by
    unfold pushV; rw [iu_o (by decide), iu_i, iu_o (by decide), e46, e74]
  have p0 : ∀ j, j ≠ 74 → pushV (m 0 70) (nx m2) 0 j = nx m2 0 j := fun j n => by unfold pushV; rw [iu_k n, iu_o (by decide), iu_o (by decide)]
  have p74 : pushV (m 0 70) (nx m2) 0 74 = m 0 74 + 1 := by unfold pushV; rw [iu_eq, e74]
  have p29 : pushV (m 0 70) (nx m2) 29 = nx m2 29 := by unfold pushV; rw [iu_row (by decide), iu_row (by decide), iu_row (by decide)]
  refine ⟨fun y => ?_, ⟨MT_c (MT_nx b.2) p29 (fun j q => p0 j (by omega)), by rw [p0 70 (by decide), e70]; omega, by rw [p74]; omega, fun t t0 t1 => ?_⟩, by rw [p0 51 (by decide)]; exact e51, p74, by rw [p0 70 (by decide)]; exact e70, by rw [p45, if_pos rfl], by rw [p46, if_pos rfl], fun t t0 t1 => ⟨by rw [p45, if_neg (by omega)], by rw [p46, if_neg (by omega)]⟩, fun j q => by rw [e42, bq j (by omega), n42.1 j q], by rw [e42, bq _ (by omega), n42.2], mF_t (mF_t mf (mF_k (kF_t b.1 kF_nx))) mF_push⟩
  · rw [ef]
    unfold endV
    unfold isS at y
    rw [if_pos hk, if_pos y]
  · rw [p74] at t1
    rw [p45, p0 70 (by decide), e70]
    split
    · omega
    · rename_i g
      have := h.2.2.2 t t0 (by omega)
      omega
/-- the first braces of a step -/
theorem T_first {n : Nat} (S : SpecS n) {G : ZG} {d : Nat} {c c2 m : Nat → Nat → Int} {K : Option AV → AH → Prop} {rv rv1 : Nat → Nat → Option Nat} {o0 : Nat} {x1 : Int} (hR : RC rv) (ho : isSh o0) (ht : rv o0 4 = some 54) (z : m 0 51 = 0) (hm : PM m) (h2 : m 0 45 = 2) (hk : knd (wM m) = 5 ∨ knd (wM m) = 6) (l60 : m 0 70 < 60) (l4 : m 0 74 < 4) (hx : x1 = m 0 74) (hn : x1 + (n + 1) = 4) (p2 : PR o0 c2 (midV (knd (wM m)) (m 0 70) (nws m (knd (wM m))))) (f2 : sF c c2 o0 (m 0 70)) (r1 : sR rv rv1 o0 (m 0 70)) (kb : ∀ c' rv' m' q, StO o0 c rv m c' rv' m' → ¬ m' 0 51 = 0 → K (some (vr q)) (mkC c' rv')) (kg : ∀ c' rv' m4, StP o0 c2 rv1 (opnV m) c' rv' m4 → isS m4 125 → Blk o0 rv' (m4 42) n (m 0 70 + 1) (m4 0 70) → (stepV m).2 = opnV m → midV (knd (wM m)) (m 0 70) (nws m (knd (wM m))) 0 51 = 0 → K (some (vr (hd o0 (m 0 70 + 1) (m4 0 70)))) (mkC c' rv')) : Z G mX6_readBraces (d + 3 * n + 9) 0 0 0 [vr (some o0), vi (x1 + 1), vu] [] (mkC c2 rv1) K := by
  have i0 := hm.2.1
  have s0 := hm.2.2.1
  have hR1 := RC_sR hR ho r1
  have ht1 := sR_4 r1 ht
  have ef := step_fin (m := m) (by omega) (by omega)
  unfold finV at ef
  have eo : optW (knd (wM m)) (m 0 70) (midV (knd (wM m)) (m 0 70) (nws m (knd (wM m)))) = midV (knd (wM m)) (m 0 70) (nws m (knd (wM m))) := by unfold optW; rw [if_neg (by omega)]
  rw [eo] at ef
  have of := opn_f hm z hk l60 l4
  by_cases z2 : midV (knd (wM m)) (m 0 70) (nws m (knd (wM m))) 0 51 = 0
  · obtain ⟨o1, o2, o3, o4, o5, -⟩ := of z2
    rw [if_neg (by omega), if_neg (by omega)] at ef
    refine C_braces (w := opnV m) S hR1 ho ht1 p2 z2 (fun no c' p f => ?_) (fun y => ⟨fun c' p => PR_push p, o3, by omega, by omega, by omega, o2⟩) (fun y c' rv' m' q so nz => ?_) (fun y c' rv' m4 sp y4 bl => ?_)
    · unfold endV at ef
      unfold isS at no
      rw [if_pos hk, if_neg no] at ef
      have nz : ¬ (stepV m).2 0 51 = 0 := by rw [ef]; exact mfail_51 (by omega)
      refine kb c' rv1 (stepV m).2 none (StO_bad hm z h2 (by rw [ef]; exact p.2.1) (sF_u f2 (sF_e f) (Int.le_refl _)) r1 ?_).1 nz
      rw [p.2.1.1]; rw [ef] at nz; exact nz
    · obtain ⟨a1, a2, a3, a4, a5, a6⟩ := so
      refine kb c' rv' m' q ⟨fun G' d' K' kk => L_w hm z h2 (by rw [o1 y]; exact a1 G' d' K' kk), a2, sF_t f2 a3 (by omega), sR_t r1 a4 (by omega), mF_t (by rw [← o1 y]; exact mF_step hm.1) a5, fun g => absurd g nz⟩ nz
    · rw [o5] at bl ⊢
      exact kg c' rv' m4 sp y4 bl (o1 y) z2
  · have pos : 0 < midV (knd (wM m)) (m 0 70) (nws m (knd (wM m))) 0 51 := by have := p2.2.1.2.2; omega
    rw [if_pos pos] at ef
    refine C_bracesF hR1 ho ht1 (by rw [p2.2.1.1]; exact z2) ?_
    have nz : ¬ (stepV m).2 0 51 = 0 := by rw [ef]; exact z2
    exact kb c2 rv1 (stepV m).2 none (StO_bad hm z h2 (by rw [ef]; exact p2.2.1) f2 r1 (by rw [p2.2.1.1]; exact z2)).1 nz
/-- the end of a step that holds one row of steps -/
theorem StO_close {o : Nat} {c c2 c' m m4 : Nat → Nat → Int} {rv rv1 rv' : Nat → Nat → Option Nat} (hm : PM m) (z : m 0 51 = 0) (h2 : m 0 45 = 2) (hk : knd (wM m) = 5 ∨ knd (wM m) = 6) (l60 : m 0 70 < 60) (l4 : m 0 74 < 4) (z2 : midV (knd (wM m)) (m 0 70) (nws m (knd (wM m))) 0 51 = 0) (f2 : sF c c2 o (m 0 70)) (r1 : sR rv rv1 o (m 0 70)) (sp : StP o c2 rv1 (opnV m) c' rv' m4) (y4 : isS m4 125) (es : (stepV m).2 = opnV m) (ec : (closeV m4).2 = iu (cl2 (m 0 70) (nx m4)) 0 74 (m4 0 74 - 1)) : StO o c rv m c' rv' (closeV m4).2 ∧ (closeV m4).2 0 51 = 0 ∧ (closeV m4).2 0 70 = m4 0 70 ∧ (∀ j, (closeV m4).2 42 j = if j = (12 * m 0 70 + 8).toNat ∨ j = (12 * m 0 70 + 7).toNat then m4 0 70 else m4 42 j) := by
  obtain ⟨o1, o2, o3, o4, o5, o6, o7, o8, o9, o10, o11⟩ := opn_f hm z hk l60 l4 z2
  obtain ⟨a1, a2, a3, a4, a5, a6, a7, a8, a9, a10, a11⟩ := sp
  have i0 := hm.2.1
  have s0 := hm.2.2.1
  have e0 : ∀ j, j ≠ 74 → (closeV m4).2 0 j = nx m4 0 j := fun j n => by rw [ec, iu_k n, cl2_f 0 (by decide)]
  have e74 : (closeV m4).2 0 74 = m 0 74 := by rw [ec, iu_eq, a8, o4]; omega
  have e70 : (closeV m4).2 0 70 = m4 0 70 := by rw [e0 70 (by decide)]; exact nx_f.2 70 (by decide) (by decide) (by decide) (by decide)
  have e51 : (closeV m4).2 0 51 = 0 := by rw [e0 51 (by decide), nx_f.2 51 (by decide) (by decide) (by decide) (by decide)]; exact a6
  have eR : ∀ a, a ≠ 0 → a ≠ 42 → (closeV m4).2 a = m4 a := fun a p q => by rw [ec, iu_row p, cl2_f a q, nx_f.1 a p]
  have e42 : ∀ j, (closeV m4).2 42 j = if j = (12 * m 0 70 + 8).toNat ∨ j = (12 * m 0 70 + 7).toNat then m4 0 70 else m4 42 j := by
    intro j
    have n70 : nx m4 0 70 = m4 0 70 := nx_f.2 70 (by decide) (by decide) (by decide) (by decide)
    rw [ec, iu_o (by decide)]
    unfold cl2
    rw [iu_i, iu_i, nx42, n70]
    split
    · rw [if_pos (by omega)]
    · split
      · rw [if_pos (by omega)]
      · rw [if_neg (by omega)]
  refine ⟨⟨fun G d K kk => L_w hm z h2 (by rw [es]; exact a1 G d K (L_close a7 (by omega) y4 kk a6)), QR_p ?_, sF_t f2 a3 (by omega), sR_t r1 a4 (by omega), mF_t (mF_t o11 a5) mF_close, fun _ => ⟨⟨?_, ?_, ?_, ?_⟩, e74, fun t t0 t1 => ?_, by rw [e70]; omega, fun j q => ?_⟩⟩, e51, e70, e42⟩
  · rw [ec]; exact PR_74 (PR_cl a2 i0.1)
  · refine MT_c (MT_nx a7.1) (by rw [eR 29 (by decide) (by decide), nx_f.1 29 (by decide)]) (fun j q => e0 j (by omega))
  · rw [e70]; have := a7.2.1; omega
  · rw [e74]; omega
  · intro t t0 t1
    rw [e74] at t1
    rw [eR 45 (by decide) (by decide), e70]
    exact a7.2.2.2 t t0 (by omega)
  · rw [eR 45 (by decide) (by decide), eR 46 (by decide) (by decide), (a9 t t0 (by omega)).1, (a9 t t0 (by omega)).2]
    exact o8 t t0 t1
  · rw [e42, if_neg (by omega), a11 j (by omega), o9 j q]

