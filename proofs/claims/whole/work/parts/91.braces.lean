/-! ===== reading in step: braces, the class ===== -/
theorem C_bracesF {G : ZG} {d : Nat} {c : Nat → Nat → Int} {K : Option AV → AH → Prop} {rv : Nat → Nat → Option Nat} {o0 : Nat} {x1 : Int} (hR : RC rv) (ho : isSh o0) (ht : rv o0 4 = some 54) (h0 : ¬ c o0 12 = 0) (k : K (some (vr none)) (mkC c rv)) : Z G mX6_readBraces (d + 9) 0 0 0 [vr (some o0), vi x1, vu] [] (mkC c rv) K := by
  apply sX6_readBraces_0 hR ho ht
  refine C_expF (d := d + 7) hR ho ht h0 ?_
  show Z G mX6_readBraces (d + 9) 0 0 6 [vr (some o0), vi x1, vu] [] (mkC c rv) K
  apply sX6_readBraces_6 hR ho ht
  apply sX6_readSteps_0 hR ho ht
  apply sX6_readSteps_7 hR ho ht
  refine ⟨fun g => by omega, fun _ => ⟨fun _ => ?_, fun z => absurd z h0⟩⟩
  show Z G mX6_readBraces (d + 9) 0 0 11 [vr (some o0), vi x1, vu] [vr none] (mkC c rv) K
  refine Z.fg (L' := [vr (some o0), vu, vu]) ⟨Or.inl rfl, Or.inr rfl, Or.inl rfl, trivial⟩ ?_
  apply sX6_readBraces_11 hR ho ht
  refine C_expF (d := d + 7) hR ho ht h0 ?_
  refine Z.fg (L' := [vu, vu, vr none]) ⟨Or.inr rfl, Or.inl rfl, Or.inl rfl, trivial⟩ ?_
  apply sX6_readBraces_18 hR
  exact k
def StP (o : Nat) (c : Nat → Nat → Int) (rv : Nat → Nat → Option Nat) (w c' : Nat → Nat → Int) (rv' : Nat → Nat → Option Nat) (m4 : Nat → Nat → Int) : Prop := (∀ G d K, CZ G d K m4 → CZ G d K w) ∧ PR o c' (nx m4) ∧ sF c c' o (w 0 70) ∧ sR rv rv' o (w 0 70) ∧ mF w m4 ∧ m4 0 51 = 0 ∧ PM m4 ∧ m4 0 74 = w 0 74 ∧ (∀ t : Int, 0 ≤ t → t < w 0 74 → m4 45 t.toNat = w 45 t.toNat ∧ m4 46 t.toNat = w 46 t.toNat) ∧ w 0 70 ≤ m4 0 70 ∧ (∀ j, j < (12 * w 0 70).toNat → m4 42 j = w 42 j)
theorem sF_e {c c' : Nat → Nat → Int} {o : Nat} {s : Int} (h : eF c c' o) : sF c c' o s := fun a j p q => h a j (by omega)
theorem sF_u {c c' c'' : Nat → Nat → Int} {o : Nat} {s t : Int} (h : sF c c' o s) (h' : sF c' c'' o t) (ht : t ≤ s) : sF c c'' o t := fun a j p q => by rw [h' a j p q, h a j (by omega) q]
theorem knd_n {m : Nat → Nat → Int} (h : m 0 45 ≠ 2) : stepV m = (0, mfail 2 m) := by
  have r : wM m ≠ -1 → m 0 45 = 2 := (wn_r (b := m 29) (t := m 0 45) (a := m 0 46) (e := m 0 47)).2
  have e : wM m = -1 := Classical.byContradiction fun q => h (r q)
  unfold stepV
  rw [if_pos (by rw [e]; decide)]
theorem C_braces {n : Nat} (S : SpecS n) {G : ZG} {d : Nat} {c m w : Nat → Nat → Int} {K : Option AV → AH → Prop} {rv : Nat → Nat → Option Nat} {o0 : Nat} {x1 : Int} (hR : RC rv) (ho : isSh o0) (ht : rv o0 4 = some 54) (h : PR o0 c m) (z : m 0 51 = 0) (kn : ¬ isS m 123 → ∀ c', PR o0 c' (mfail 2 m) → eF c c' o0 → K (some (vr none)) (mkC c' rv)) (ky : isS m 123 → (∀ c', PR o0 c' (nx m) → PR o0 c' w) ∧ w 0 51 = 0 ∧ x1 = w 0 74 ∧ x1 + n = 4 ∧ 1 ≤ x1 ∧ PM w) (k1 : isS m 123 → ∀ c' rv' m' q, StO o0 c rv w c' rv' m' → ¬ m' 0 51 = 0 → K (some (vr q)) (mkC c' rv')) (k2 : isS m 123 → ∀ c' rv' m4, StP o0 c rv w c' rv' m4 → isS m4 125 → Blk o0 rv' (m4 42) n (w 0 70) (m4 0 70) → K (some (vr (hd o0 (w 0 70) (m4 0 70)))) (mkC c' rv')) : Z G mX6_readBraces (d + 3 * n + 9) 0 0 0 [vr (some o0), vi x1, vu] [] (mkC c rv) K := by
  have c0 : c o0 12 = 0 := by rw [h.2.1.1]; exact z
  apply sX6_readBraces_0 hR ho ht
  refine C_expect (d := d + 3 * n + 7) hR ho ht h c0 (fun y c1 p1 f1 c10 => ?_) (fun no c' p f nz => ?_)
  rotate_left
  · show Z G mX6_readBraces (d + 3 * n + 9) 0 0 6 [vr (some o0), vi x1, vu] [] (mkC c' rv) K
    apply sX6_readBraces_6 hR ho ht
    apply sX6_readSteps_0 hR ho ht
    apply sX6_readSteps_7 hR ho ht
    refine ⟨fun g => by omega, fun _ => ⟨fun _ => ?_, fun z => absurd z nz⟩⟩
    show Z G mX6_readBraces (d + 3 * n + 9) 0 0 11 [vr (some o0), vi x1, vu] [vr none] (mkC c' rv) K
    refine Z.fg (L' := [vr (some o0), vu, vu]) ⟨Or.inl rfl, Or.inr rfl, Or.inl rfl, trivial⟩ ?_
    apply sX6_readBraces_11 hR ho ht
    refine C_expF (d := d + 3 * n + 7) hR ho ht nz ?_
    refine Z.fg (L' := [vu, vu, vr none]) ⟨Or.inr rfl, Or.inl rfl, Or.inl rfl, trivial⟩ ?_
    apply sX6_readBraces_18 hR
    exact kn no c' p f
  obtain ⟨w1, w51, w74, wn, x0, wm⟩ := ky y
  show Z G mX6_readBraces (d + 3 * n + 9) 0 0 6 [vr (some o0), vi x1, vu] [] (mkC c1 rv) K
  apply sX6_readBraces_6 hR ho ht
  refine S G d c1 w _ rv o0 x1 hR ho ht (w1 c1 p1) w51 w74 wn wm (fun c2 rv2 m4 q so bl => ?_)
  obtain ⟨a1, a2, a3, a4, a5, a6⟩ := id so
  have hR2 := RC_sR hR ho a4
  have ht2 := sR_4 a4 ht
  have fin : ∀ c3 A q, Z G mX6_expect (d + 3 * n + 8) 0 0 0 [vr (some o0), vi 125] [] (mkC c3 A) (fun r A1 => Z G mX6_readBraces (d + 3 * n + 9) 0 0 18 [vr (some o0), vu, vr q] (r.toList ++ []) A1 K) → RC A → A o0 4 = some 54 → Z G mX6_readBraces (d + 3 * n + 9) 0 0 11 [vr (some o0), vi x1, vu] [vr q] (mkC c3 A) K := by
    intro c3 A q e r r4
    refine Z.fg (L' := [vr (some o0), vu, vu]) ⟨Or.inl rfl, Or.inr rfl, Or.inl rfl, trivial⟩ ?_
    apply sX6_readBraces_11 r ho r4
    exact e
  refine fin c2 rv2 q ?_ hR2 ht2
  have e18 : ∀ c3 q, K (some (vr q)) (mkC c3 rv2) → Z G mX6_readBraces (d + 3 * n + 9) 0 0 18 [vr (some o0), vu, vr q] [] (mkC c3 rv2) K := by
    intro c3 q kk
    refine Z.fg (L' := [vu, vu, vr q]) ⟨Or.inr rfl, Or.inl rfl, Or.inl rfl, trivial⟩ ?_
    apply sX6_readBraces_18 hR2
    exact kk
  have lo : StO o0 c rv w c2 rv2 m4 := ⟨a1, a2, sF_u (sF_e f1) a3 (Int.le_refl _), a4, a5, a6⟩
  by_cases z4 : m4 0 51 = 0
  rotate_left
  · refine C_expF (d := d + 3 * n + 7) hR2 ho ht2 (by rw [a2.1.1]; exact z4) ?_
    exact e18 _ _ (k1 y c2 rv2 m4 q lo z4)
  obtain ⟨b1, b2, b3⟩ := bl z4
  obtain ⟨p1', p2, p3, p4, p5⟩ := a6 z4
  have pr := a2.2 z4
  refine C_expect (d := d + 3 * n + 7) hR2 ho ht2 pr (by rw [a2.1.1]; exact z4) (fun y4 c3 q3 f3 c30 => ?_) (fun n4 c3 q3 f3 nz3 => ?_)
  · refine e18 _ _ ?_
    rw [b3]
    exact k2 y c3 rv2 m4 ⟨a1, q3, sF_u (sF_u (sF_e f1) a3 (Int.le_refl _)) (sF_e f3) (Int.le_refl _), a4, a5, z4, p1', p2, p3, p4, p5⟩ y4 b2
  · refine e18 _ _ ?_
    have ns : ¬ mfail 2 m4 0 51 = 0 := mfail_51 (by omega)
    refine k1 y c3 rv2 (mfail 2 m4) q ⟨fun G' d' K' kk => a1 G' d' K' (L_step p1' (by omega) (fun g => n4 g.2) (by rw [knd_n b1]; exact kk) z4), QR_p q3, sF_u (sF_u (sF_e f1) a3 (Int.le_refl _)) (sF_e f3) (Int.le_refl _), a4, mF_t a5 (mF_k kF_fail), fun g => absurd g ns⟩ ns

