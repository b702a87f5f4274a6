/-! ===== reading in step: the steps that hold no steps, the class ===== -/
theorem C_expF {G : ZG} {d : Nat} {c : Nat → Nat → Int} {K : Option AV → AH → Prop} {rv : Nat → Nat → Option Nat} {o0 : Nat} {x1 : Int} (hR : RC rv) (ho : isSh o0) (ht : rv o0 4 = some 54) (h0 : ¬ c o0 12 = 0) (k : K none (mkC c rv)) : Z G mX6_expect (d + 1) 0 0 0 [vr (some o0), vi x1] [] (mkC c rv) K := by
  apply sX6_expect_0 hR ho ht
  exact ⟨fun z => absurd z h0, fun _ => k⟩
theorem C_optF {G : ZG} {d : Nat} {c : Nat → Nat → Int} {K : Option AV → AH → Prop} {rv : Nat → Nat → Option Nat} {o0 o1 : Nat} (hR : RC rv) (ho : isSh o0) (h1 : isSt o1) (ht : rv o0 4 = some 54) (h0 : ¬ c o0 12 = 0) (k : K none (mkC c rv)) : Z G mX6_readOptions (d + 6) 0 0 0 [vr (some o0), vr (some o1), vu] [] (mkC c rv) K := by
  apply sX6_readOptions_0 hR ho h1 ht
  apply sX6_readOptions_2 hR ho h1 ht
  exact ⟨fun g => by omega, fun _ => ⟨fun _ => k, fun z => absurd z h0⟩⟩
theorem C_great {G : ZG} {d : Nat} {c : Nat → Nat → Int} {K : Option AV → AH → Prop} {rv : Nat → Nat → Option Nat} {kd : Int} (hR : RC rv) (k : K (some (vi (kG kd))) (mkC c rv)) : Z G mX6_greatestFor d 0 0 0 [vi kd] [] (mkC c rv) K := by
  unfold kG at k
  apply sX6_greatestFor_0 hR
  refine ⟨fun e => ?_, fun e => ?_, fun e => ?_⟩
  · rw [if_pos e] at k; exact k
  · rw [if_neg (by omega), if_pos e] at k; exact k
  · rw [if_neg e.1, if_neg e.2] at k; exact k
noncomputable def finV (kd i : Int) (m : Nat → Nat → Int) : Nat → Nat → Int := if 0 < midV kd i m 0 51 then midV kd i m else if 0 < optW kd i (midV kd i m) 0 51 then optW kd i (midV kd i m) else (endV kd i (optW kd i (midV kd i m))).2
theorem C_simple {G : ZG} {d : Nat} {c m : Nat → Nat → Int} {K : Option AV → AH → Prop} {rv : Nat → Nat → Option Nat} {o0 : Nat} {i x1 kd : Int} (hR : RC rv) (ho : isSh o0) (ht : rv o0 4 = some 54) (h : PR o0 c m) (h0 : m 0 51 = 0) (hi : 0 ≤ i ∧ i < m 0 70) (hk : 0 ≤ kd ∧ kd ≤ 4) (k : ∀ c', QR o0 c' (finV kd i m) → hF c c' o0 i.toNat → K (some (vr (some (o0 + 2 + i.toNat)))) (mkC c' rv)) : Z G mX6_readStep (d + 7) 0 0 70 [vr (some o0), vi x1, vi kd, vr (some (o0 + 2 + i.toNat))] [] (mkC c rv) K := by
  have s60 := h.2.2.2.2.1
  have h1 : isSt (o0 + 2 + i.toNat) := by unfold isSt; rcases ho with e | e <;> subst e <;> omega
  have c0 : c o0 12 = 0 := by have := h.2.1.1; omega
  have last : ∀ (a b e : AV) c3 m3, QR o0 c3 m3 → hF c c3 o0 i.toNat → finV kd i m = (if 0 < m3 0 51 then m3 else (endV kd i m3).2) → Z G mX6_expect (d + 6) 0 0 0 [vr (some o0), vi 59] [] (mkC c3 rv) (fun r A1 => Z G mX6_readStep (d + 7) 0 0 210 [a, b, e, vr (some (o0 + 2 + i.toNat))] (r.toList ++ []) A1 K) := by
    intro a b e c3 m3 q f ef
    have pf := q.1
    by_cases z : m3 0 51 = 0
    · rw [if_neg (by omega)] at ef
      have c30 : c3 o0 12 = 0 := by rw [pf.1]; exact z
      unfold endV at ef
      rw [if_neg (by omega)] at ef
      refine C_expect (d := d + 5) hR ho ht (q.2 z) c30 (fun y c' p' f' _ => ?_) (fun n c' p' f' _ => ?_)
      · refine Z.fg (L' := [vu, vu, vu, vr (some (o0 + 2 + i.toNat))]) ⟨Or.inr rfl, Or.inr rfl, Or.inr rfl, Or.inl rfl, trivial⟩ ?_
        apply sX6_readStep_210 hR h1
        refine k c' ?_ (hF_t f (hF_e f'))
        unfold isS at y
        rw [ef, if_pos y]; exact QR_p p'
      · refine Z.fg (L' := [vu, vu, vu, vr (some (o0 + 2 + i.toNat))]) ⟨Or.inr rfl, Or.inr rfl, Or.inr rfl, Or.inl rfl, trivial⟩ ?_
        apply sX6_readStep_210 hR h1
        refine k c' ?_ (hF_t f (hF_e f'))
        unfold isS at n
        rw [ef, if_neg n]; exact QR_p p'
    · rw [if_pos (by have := pf.2.2; omega)] at ef
      refine C_expF (d := d + 5) hR ho ht (by rw [pf.1]; exact z) ?_
      refine Z.fg (L' := [vu, vu, vu, vr (some (o0 + 2 + i.toNat))]) ⟨Or.inr rfl, Or.inr rfl, Or.inr rfl, Or.inl rfl, trivial⟩ ?_
      apply sX6_readStep_210 hR h1
      refine k c3 ?_ f
      rw [ef]; exact q
  have mid : ∀ (a b e : AV) c2, PR o0 c2 (midV kd i m) → hF c c2 o0 i.toNat → midV kd i m 0 70 = m 0 70 → (¬ kd = 2 → Z G mX6_expect (d + 6) 0 0 0 [vr (some o0), vi 59] [] (mkC c2 rv) (fun r A1 => Z G mX6_readStep (d + 7) 0 0 210 [a, b, e, vr (some (o0 + 2 + i.toNat))] (r.toList ++ []) A1 K)) ∧ (kd = 2 → Z G mX6_readOptions (d + 6) 0 0 0 [vr (some o0), vr (some (o0 + 2 + i.toNat)), vu] [] (mkC c2 rv) (fun r A1 => Z G mX6_readStep (d + 7) 0 0 204 [vr (some o0), vu, e, vr (some (o0 + 2 + i.toNat))] (r.toList ++ []) A1 K)) := by
    intro a b e c2 p f e70
    have ef : finV kd i m = finV kd i m := rfl
    conv at ef => rhs; unfold finV
    generalize midV kd i m = m2 at *
    refine ⟨fun n2 => last a b e c2 m2 (QR_p p) f ?_, fun e2 => ?_⟩
    · rw [ef]
      unfold optW
      rw [if_neg n2]
      by_cases z : 0 < m2 0 51
      · rw [if_pos z, if_pos z]
      · rw [if_neg z, if_neg z]
    · by_cases z : m2 0 51 = 0
      · refine C_readOptions hR ho ht p z (by omega) (fun c3 q f' => ?_)
        refine Z.fg (L' := [vr (some o0), vu, vu, vr (some (o0 + 2 + i.toNat))]) ⟨Or.inl rfl, Or.inl rfl, Or.inr rfl, Or.inl rfl, trivial⟩ ?_
        apply sX6_readStep_204 hR ho h1 ht
        refine last _ _ _ c3 _ q (hF_t f f') ?_
        rw [ef, if_neg (by omega)]
        unfold optW
        rw [if_pos e2]
      · refine C_optF hR ho h1 ht (by rw [p.2.1.1]; exact z) ?_
        refine Z.fg (L' := [vr (some o0), vu, vu, vr (some (o0 + 2 + i.toNat))]) ⟨Or.inl rfl, Or.inl rfl, Or.inr rfl, Or.inl rfl, trivial⟩ ?_
        apply sX6_readStep_204 hR ho h1 ht
        refine last _ _ _ c2 _ (QR_p p) f ?_
        have := p.2.1.2.2
        rw [ef, if_pos (by omega), if_pos (by omega)]
  have num : kd ≠ 4 → ∀ (b e : AV), Z G mX6_readNumber (d + 6) 0 0 0 [vr (some o0), vi (kL kd), vi (kG kd), vu] [] (mkC c rv) (fun r A1 => Z G mX6_readStep (d + 7) 0 0 191 [vr (some o0), vu, vi kd, vr (some (o0 + 2 + i.toNat))] (r.toList ++ [vr (some (o0 + 2 + i.toNat))]) A1 K) := by
    intro n4 b e
    refine C_num (d := d + 5) hR ho ht h c0 (fun c' p f _ => ?_)
    have k70 : (numV (kL kd) (kG kd) m).2 0 70 = m 0 70 := kF_num 0 70 (by decide) (by decide) (by omega)
    have em : midV kd i m = iu (numV (kL kd) (kG kd) m).2 42 (12 * i + 1).toNat (numV (kL kd) (kG kd) m).1 := by unfold midV; rw [if_neg n4, if_neg (by omega)]
    have p2 : PR o0 (iu c' (o0 + 2 + i.toNat) 2 (numV (kL kd) (kG kd) m).1) (midV kd i m) := by rw [em]; exact PR_set (w := 1) ho p (by omega) (by unfold fW; omega)
    show Z G mX6_readStep (d + 7) 0 0 191 [vr (some o0), vu, vi kd, vr (some (o0 + 2 + i.toNat))] [vi (numV (kL kd) (kG kd) m).1, vr (some (o0 + 2 + i.toNat))] (mkC c' rv) K
    apply sX6_readStep_191 hR ho h1 ht
    exact mid _ _ _ _ p2 (hF_s (hF_e f)) (by rw [em, iu_o (by decide)]; exact k70)
  apply sX6_readStep_70 hR ho h1 ht
  refine ⟨fun _ => ⟨fun _ => ⟨fun n4 => ⟨fun n1 => ?_, fun e1 => ?_⟩, fun e4 => ?_⟩, fun z => by omega⟩, fun z => by omega⟩
  · refine C_great hR ?_
    show Z G mX6_readStep (d + 7) 0 0 188 _ [vi (kG kd), vi 0, vr (some o0), vr (some (o0 + 2 + i.toNat))] (mkC c rv) K
    refine Z.fg (L' := [vr (some o0), vu, vi kd, vr (some (o0 + 2 + i.toNat))]) ⟨Or.inl rfl, Or.inr rfl, Or.inl rfl, Or.inl rfl, trivial⟩ ?_
    apply sX6_readStep_188 hR ho h1 ht
    have := num n4 vu vu
    unfold kL at this
    rw [if_neg n1] at this; exact this
  · refine C_great hR ?_
    show Z G mX6_readStep (d + 7) 0 0 188 _ [vi (kG kd), vi 1, vr (some o0), vr (some (o0 + 2 + i.toNat))] (mkC c rv) K
    refine Z.fg (L' := [vr (some o0), vu, vi kd, vr (some (o0 + 2 + i.toNat))]) ⟨Or.inl rfl, Or.inr rfl, Or.inl rfl, Or.inl rfl, trivial⟩ ?_
    apply sX6_readStep_188 hR ho h1 ht
    have := num n4 vu vu
    unfold kL at this
    rw [if_pos e1] at this; exact this
  · refine C_readName (d := d + 5) hR ho ht h c0 (fun r v c' nr p f _ => ?_)
    obtain ⟨er, ev⟩ := nameR_e nr
    have k70 : v 0 70 = m 0 70 := by rw [ev]; exact kF_name 0 70 (by decide) (by decide) (by omega)
    have em : midV kd i m = iu v 42 (12 * i + 11).toNat r := by unfold midV; rw [if_pos e4, er, ev]
    have p2 : PR o0 (iu c' (o0 + 2 + i.toNat) 8 r) (midV kd i m) := by rw [em]; exact PR_set (w := 11) ho p (by omega) (by unfold fW; omega)
    show Z G mX6_readStep (d + 7) 0 0 166 _ [vi r, vr (some (o0 + 2 + i.toNat))] (mkC c' rv) K
    refine Z.fg (L' := [vr (some o0), vu, vi kd, vr (some (o0 + 2 + i.toNat))]) ⟨Or.inl rfl, Or.inr rfl, Or.inl rfl, Or.inl rfl, trivial⟩ ?_
    apply sX6_readStep_166 hR ho h1 ht
    exact mid _ _ _ _ p2 (hF_s (hF_g f)) (by rw [em, iu_o (by decide)]; exact k70)

