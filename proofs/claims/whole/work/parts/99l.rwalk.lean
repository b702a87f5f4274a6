/-! ===== a run: one step, whole ===== -/
theorem RunI_m {B : Int} {p a b : Nat} {c m m' : Nat → Nat → Int} {rv : Nat → Nat → Option Nat} {n : Int} (h : RunI B p a b c m rv n) (hab : 50 ≤ a ∧ 50 ≤ b) (hm : ∀ i j, i ≠ 15 → ¬ (51 ≤ i ∧ i ≤ 54) → ¬ (i = 0 ∧ j = 20) → m' i j = m i j) : RunI B p a b c m' rv n := by
  obtain ⟨hX, hY, h8, h9, h10⟩ := h
  refine ⟨RX_f (a := a) (b := b) hX rF_r (fun i j _ _ _ _ e _ _ f g => hm i j e f (by omega)), RY_c hY hab (fun _ _ _ => rfl) (fun i j e f g => hm i j e f (by omega)), h8, ?_, ?_⟩
  · rw [hm 0 79 (by decide) (by omega) (by omega), hm 0 80 (by decide) (by omega) (by omega)]; exact h9
  · rw [hm 0 79 (by decide) (by omega) (by omega)]; exact h10
theorem push_o {m : Nat → Nat → Int} {y f e t g : Int} : ∀ i j, ¬ (51 ≤ i ∧ i ≤ 54) → pushF m y f e t g i j = m i j := fun i j h => by
  unfold pushF; rw [iu_o (by omega), iu_o (by omega), iu_o (by omega), iu_o (by omega)]
theorem push_k {m : Nat → Nat → Int} {y f e t g : Int} : ∀ i j, j ≠ y.toNat → pushF m y f e t g i j = m i j := fun i j h => by
  unfold pushF; rw [iu_k h, iu_k h, iu_k h, iu_k h]
theorem push_v {m : Nat → Nat → Int} {y f e t g : Int} : pushF m y f e t g 51 y.toNat = f ∧ pushF m y f e t g 52 y.toNat = e ∧ pushF m y f e t g 53 y.toNat = t ∧ pushF m y f e t g 54 y.toNat = g := by
  unfold pushF
  refine ⟨?_, ?_, ?_, iu_eq⟩
  · rw [iu_o (by decide), iu_o (by decide), iu_o (by decide)]; exact iu_eq
  · rw [iu_o (by decide), iu_o (by decide)]; exact iu_eq
  · rw [iu_o (by decide)]; exact iu_eq
theorem push_rM {m : Nat → Nat → Int} {y f e t g : Int} : rM m (pushF m y f e t g) := fun i j _ _ _ _ _ _ _ h _ => push_o i j h
/-- from the question on: what a step does -/
theorem W53 {n : Nat} (S : SpecB n) {G : ZG} {d : Nat} {v m : Nat → Nat → Int} {K : Option AV → AH → Prop} {rv : Nat → Nat → Option Nat} {B : Int} {p a b : Nat} {x i e n1 : Int} (hR : RC rv) (hA : mA a b rv) (hB : B ≤ 20000000) (hI : RunI B p a b v m rv n1) (z : m 0 79 = 0) (hx : 0 ≤ x ∧ x + (n + 1) = 4) (sb : StB (Blk p rv (bM m) n) p rv (bM m) i e) (hi : 0 ≤ i) (he : e ≤ m 0 68) (hw : wrM m i = 0) (hl : m 30 i.toNat = 6 → m 39 i.toNat = 1 → leastC v (sdA (m 0 81))) (k : ∀ c' m' n', (∀ G d K, JZ G d K n' x e m' → ∀ u, mScr m u → DJ G d K n1 x i u) → RunI B p a b c' m' rv n' → rF a b v c' → rM m m' → (∀ j : Int, 0 ≤ j → j ≤ x → ∀ t, 51 ≤ t → t ≤ 54 → m' t j.toNat = m t j.toNat) → K none (mkC c' rv)) : Z G mX5_doStep (d + 2 * n + 9) 0 0 53 [vr (some 40), vr (some (p + 2 + i.toNat)), vi x, vu, vu] [] (mkC v rv) K := by
  obtain ⟨hX, hY, h8, h9, h10⟩ := id hI
  have hab := hA.2.2
  have hab' : 50 ≤ a ∧ 50 ≤ b := by omega
  obtain ⟨rs, rr, sh⟩ := id hX
  have hp : p = 55 ∨ p = 119 := sh.1
  have s60 := sh.2.1
  have lt := sb.1
  have hi68 : 0 ≤ i ∧ i < m 0 68 := by omega
  obtain ⟨st, wf, nb⟩ := sh.2.2.2.2.2 i hi (by omega)
  have w := wf_at hi wf
  obtain ⟨s0, s1, s2, s3, s4, s5, s6, s7, s8, s9⟩ := st
  have hq : isSt (p + 2 + i.toNat) := by clear w; unfold isSt; omega
  have cu := hY.2.2.1
  have sdc := hY.1 (m 0 81) cu.2
  have sd := sdc.1
  have so := sdA_c (m 0 81)
  have okd : okSd v (sdA (m 0 81)) := okSd_of (by clear w; omega) rr sd (by have := sdc.2.2; have := sd.1; have := sd.2.1; clear w; omega)
  have e7 : bM m (12 * i + 7).toNat = m 37 i.toNat := bM_at hi (by omega)
  have e8 : bM m (12 * i + 8).toNat = m 38 i.toNat := bM_at hi (by omega)
  have ek := bM_0 (m := m) hi
  -- behind an inner row
  have back : ∀ (mid : Int) (c' m' m0 : Nat → Nat → Int) (n' : Int) (f0 : Int), RunO B p a b rv v m0 c' m' n1 n' (x + 1) f0 mid → m0 52 (x + 1).toNat = mid → m0 53 (x + 1).toNat = 0 → m0 54 (x + 1).toNat = e → ∀ G d K, JZ G d K n' x e m' → JZ G d K n1 (x + 1) f0 m0 := by
    intro mid c' m' m0 n' f0 o p52 p53 p54 G d K j
    refine o.1 G d K ?_
    by_cases g : m' 0 79 = 0
    · have q := o.2.2.2.2 (x + 1) (by omega) (by omega)
      refine J_last0 (by omega) g (by rw [q 52 (by decide) (by decide), p52]) (by rw [q 53 (by decide) (by decide), p53]; omega) ?_
      rw [q 54 (by decide) (by decide), p54, show x + 1 - 1 = x by omega]
      exact j
    · exact JZ_e g j
  apply sX5_doStep_53 hR hq
  rw [s0]
  unfold StB at sb
  rw [ek, e7, e8] at sb
  obtain ⟨-, sb⟩ := sb
  refine ⟨fun n5 => ⟨fun n6 => ?_, fun e6 => ?_⟩, fun e5 => ?_⟩
  · -- a plain step
    have k4 : m 30 i.toNat ≤ 4 := by have := w.1; clear w; omega
    have ee : e = i + 1 := by rcases sb with q | q | q <;> omega
    obtain ⟨p1, p2, p3, p4, p5⟩ := plain_ok hA hI hi68 k4 hw
    obtain ⟨w1, w2, w3, w4⟩ := wr0 hw
    have bb : m 30 i.toNat = 2 → stB v (p + 2 + i.toNat) = mB m i ∧ stE2 v (p + 2 + i.toNat) = mE m i ∧ (0 ≤ mB m i ∧ mB m i ≤ 59) ∧ (0 ≤ mE m i ∧ mE m i ≤ 60) := fun e2 => by
      have l := (rs.2.1 (m 31 i.toNat) (w2 e2).1.1 (by have := (w2 e2).1; have := rs.1; clear w w1 w2 w3 w4; omega)).1.1
      have := (st_pre hX hY hi68).2.2.2.2 e2
      refine ⟨by unfold stB mB; rw [s3], by unfold stE2 mE; rw [s4, s2, l], this⟩
    refine C_doPlain hR hq hA.1 (mA_s hA).1 hA.2.1 (mA_s hA).2 (by clear w; omega) (by rw [s0]; have := w.1; clear w w1 w2 w3 w4; omega) (by rw [cu.1]; clear w w1 w2 w3 w4; omega) (by rw [cu.1, sd.1]; exact sd.2.1.1) (by rw [cu.1]; exact okd.2.2.2.2.1) (fun e0 => ?_) (fun e1 => ?_) (fun e2 => ?_) (fun e4 => ?_) ?_
    · rw [s0] at e0; rw [s2]; exact w.2.1 e0
    · rw [s0] at e1; rw [s2, cu.1, sd.1]
      have := w.2.2.1 e1
      exact ⟨by clear w w1 w2 w3 w4; omega, (w1 e1).2⟩
    · rw [s0] at e2
      obtain ⟨t1, t2, t3, t4⟩ := w2 e2
      obtain ⟨o1, o2, o3, o4⟩ := w.2.2.2.2.1 e2
      obtain ⟨b1, b2, b3, b4⟩ := bb e2
      have rs1 := rs.1
      clear w w1 w2 w3 w4 bb
      rw [s2, b1, b2, s5, s6, cu.1, sd.1]
      refine ⟨⟨t1.1, by omega⟩, ⟨b3.1, t2.1, b4.2⟩, o4, o3.1, fun q q0 q1 => ?_, t4⟩
      have lv := (rs.2.2 (m 31 i.toNat) t1.1 t1.2).2.2 q q0 (by omega)
      rw [lv.1]; exact lv.2
    · rw [s0] at e4; rw [s8]; exact w.2.2.2.2.2.1 e4
    · refine Z.fg (L' := [vu, vu, vu, vu, vu]) ⟨Or.inr rfl, Or.inr rfl, Or.inr rfl, Or.inl rfl, Or.inl rfl, trivial⟩ ?_
      apply sX5_doStep_143 hR
      refine k _ (plM2 m i) n1 (fun G d K j u su => ?_) p1 p2 p3 (fun j _ _ t t0 t1 => by rw [p4 t t0 t1])
      rw [ee] at j
      exact D_plain hX hY hab' hi68 k4 hw su j
  · -- a choice
    have ww := w.2.2.2.2.2.2 e6
    have wst := (wr0 hw).2.2.2 e6
    clear w
    have q6 : (i + 1 ≤ m 37 i.toNat ∧ m 37 i.toNat ≤ e) ∧ m 38 i.toNat = e ∧ rv (p + 2 + i.toNat) 10 = hd p (i + 1) (m 37 i.toNat) ∧ Blk p rv (bM m) n (i + 1) (m 37 i.toNat) ∧ rv (p + 2 + i.toNat) 11 = hd p (m 37 i.toNat) e ∧ Blk p rv (bM m) n (m 37 i.toNat) e := by
      rcases sb with q | q | q
      · omega
      · have := q.1; omega
      · exact q.2
    clear sb
    obtain ⟨c1, c2, c3, c4, c5, c6⟩ := q6
    refine C_holds hR hq hA.1 (mA_s hA).1 (by rw [cu.1]; omega) (by rw [cu.1]; exact okd) (fun n2 n0 => ?_) (fun e2 => ?_) ?_
    · rw [s7] at n2 n0
      have t1 : m 39 i.toNat = 1 := by omega
      rw [cu.1]
      intro q q0 q1
      have := leastC_ub okd (by rw [near_eq rr sd]; exact wst t1) (hl e6 t1) q q0 q1
      omega
    · rw [s7] at e2; rw [s8]; omega
    · show Z G mX5_doStep (d + 2 * n + 9) 0 0 115 [vr (some 40), vr (some (p + 2 + i.toNat)), vi x, vu, vu] [vi (hlC v (p + 2 + i.toNat) a), vr (some 40)] (mkC v rv) K
      have hH : ∀ w r, mScr m w → (¬ w 39 i.toNat = 2 → ¬ w 39 i.toNat = 0 → roomM w (w 0 81) r) → hlM w i r = hlC v (p + 2 + i.toNat) a := fun w r sw rm => by
        have e30 : w 30 i.toNat = 6 := (sw 30 _ (by decide) (by omega)).trans e6
        have e39 : w 39 i.toNat = m 39 i.toNat := sw 39 _ (by decide) (by omega)
        have e81 : w 0 81 = m 0 81 := sw 0 81 (by decide) (by omega)
        exact (hl_eq (RX_v hX sw) (RY_v hY hab' sw) (i := i) (by rw [sw 0 68 (by decide) (by omega)]; exact hi68) e30 (fun t => by rw [e81]; exact hl e6 (by rw [← e39]; exact t)) rm).symm
      have hH0 : hlC v (p + 2 + i.toNat) a = hlC v (p + 2 + i.toNat) a := rfl
      generalize hlC v (p + 2 + i.toNat) a = H at *
      refine Z.fg (L' := [vu, vr (some (p + 2 + i.toNat)), vi x, vu, vu]) ⟨Or.inr rfl, Or.inl rfl, Or.inl rfl, Or.inl rfl, Or.inl rfl, trivial⟩ ?_
      apply sX5_doStep_115 hR hq
      rw [c3, c5]
      refine ⟨fun y0 => ⟨by omega, ?_⟩, fun y0 => ⟨by omega, ?_⟩⟩
      · have i0 := RunI_m (m' := pushF m (x + 1) (m 37 i.toNat) e 0 e) hI hab' (fun i j _ f _ => push_o i j f)
        obtain ⟨v1, v2, v3, v4⟩ := push_v (m := m) (y := x + 1) (f := m 37 i.toNat) (e := e) (t := 0) (g := e)
        have := S G d v (pushF m (x + 1) (m 37 i.toNat) e 0 e) (fun r A1 => Z G mX5_doStep (d + 2 * n + 9) 0 0 135 [vu, vr (some (p + 2 + i.toNat)), vi x, vu, vu] (r.toList ++ []) A1 K) rv B p a b (x + 1) (m 37 i.toNat) e n1 hR hA hB i0 (by rw [push_o _ _ (by omega)]; exact z) (by omega) (by rw [rM_bM push_rM]; exact c6) (by omega) (by rw [push_o _ _ (by omega)]; exact he) v2.symm (fun c' m' n' o => ?_)
        · exact this
        · refine Z.fg (L' := [vu, vu, vu, vu, vu]) ⟨Or.inl rfl, Or.inr rfl, Or.inr rfl, Or.inl rfl, Or.inl rfl, trivial⟩ ?_
          apply sX5_doStep_135 hR
          refine k c' m' n' (fun G d K j u su => ?_) o.2.1 o.2.2.1 (rM_t push_rM o.2.2.2.1) (fun j j0 j1 t t0 t1 => by rw [o.2.2.2.2 j j0 (by omega) t t0 t1, push_k _ _ (by omega)])
          refine D_when (H := H) hX hY hab' hi68 (by omega) e6 hw su hH (fun _ => ?_) (fun g => absurd y0 g)
          rw [c2]
          exact back e c' m' _ n' _ o v2 v3 v4 G d K j
      · have i0 := RunI_m (m' := pushF m (x + 1) (i + 1) (m 37 i.toNat) 0 e) hI hab' (fun i j _ f _ => push_o i j f)
        obtain ⟨v1, v2, v3, v4⟩ := push_v (m := m) (y := x + 1) (f := i + 1) (e := m 37 i.toNat) (t := 0) (g := e)
        have := S G d v (pushF m (x + 1) (i + 1) (m 37 i.toNat) 0 e) (fun r A1 => Z G mX5_doStep (d + 2 * n + 9) 0 0 135 [vu, vr (some (p + 2 + i.toNat)), vi x, vu, vu] (r.toList ++ []) A1 K) rv B p a b (x + 1) (i + 1) (m 37 i.toNat) n1 hR hA hB i0 (by rw [push_o _ _ (by omega)]; exact z) (by omega) (by rw [rM_bM push_rM]; exact c4) (by omega) (by rw [push_o _ _ (by omega)]; omega) v2.symm (fun c' m' n' o => ?_)
        · exact this
        · refine Z.fg (L' := [vu, vu, vu, vu, vu]) ⟨Or.inl rfl, Or.inr rfl, Or.inr rfl, Or.inl rfl, Or.inl rfl, trivial⟩ ?_
          apply sX5_doStep_135 hR
          refine k c' m' n' (fun G d K j u su => ?_) o.2.1 o.2.2.1 (rM_t push_rM o.2.2.2.1) (fun j j0 j1 t t0 t1 => by rw [o.2.2.2.2 j j0 (by omega) t t0 t1, push_k _ _ (by omega)])
          refine D_when (H := H) hX hY hab' hi68 (by omega) e6 hw su hH (fun g => absurd g y0) (fun _ => ?_)
          rw [c2]
          exact back _ c' m' _ n' _ o v2 v3 v4 G d K j
  · -- again
    have hN := w.2.2.2.1 (Or.inr (Or.inr e5))
    clear w
    have q5 : m 37 i.toNat = e ∧ m 38 i.toNat = e ∧ rv (p + 2 + i.toNat) 10 = hd p (i + 1) e ∧ Blk p rv (bM m) n (i + 1) e := by
      rcases sb with q | q | q
      · omega
      · exact q.2
      · have := q.1; omega
    clear sb
    obtain ⟨c1, c2, c3, c4⟩ := q5
    have rq : ∀ c' : Nat → Nat → Int, rF a b v c' → c' (p + 2 + i.toNat) 2 = m 31 i.toNat := fun c' f => by rw [f _ _ (by omega) (by omega) (by omega)]; exact s2
    by_cases N0 : m 31 i.toNat = 0
    · apply sX5_doStep_64 hR hq
      rw [s2]
      refine ⟨fun _ => k v m n1 (fun G d K j u su => ?_) hI rF_r rM_r (fun _ _ _ _ _ _ => rfl), fun q => by omega⟩
      exact D_again (by omega) (by omega) e5 hN su (fun _ => by rw [c2]; exact j) (fun q => by omega)
    · -- the stack of the model, and the rounds
      have i0 := RunI_m (m' := pushF m (x + 1) (i + 1) e (m 31 i.toNat - 1) e) hI hab' (fun i j _ f _ => push_o i j f)
      obtain ⟨v1, v2, v3, v4⟩ := push_v (m := m) (y := x + 1) (f := i + 1) (e := e) (t := m 31 i.toNat - 1) (g := e)
      have rM0 : rM m (pushF m (x + 1) (i + 1) e (m 31 i.toNat - 1) e) := push_rM
      have k0 : ∀ j : Int, 0 ≤ j → j ≤ x → ∀ t, pushF m (x + 1) (i + 1) e (m 31 i.toNat - 1) e t j.toNat = m t j.toNat := fun j _ _ t => push_k _ _ (by omega)
      have z0 : pushF m (x + 1) (i + 1) e (m 31 i.toNat - 1) e 0 79 = 0 := by rw [push_o _ _ (by omega)]; exact z
      have dj : ∀ G d K, JZ G d K n1 (x + 1) (i + 1) (pushF m (x + 1) (i + 1) e (m 31 i.toNat - 1) e) → ∀ u, mScr m u → DJ G d K n1 x i u := fun G d K j u su => D_again (by omega) (by omega) e5 hN su (fun q => absurd q N0) (fun _ => by rw [c1, c2]; exact j)
      generalize pushF m (x + 1) (i + 1) e (m 31 i.toNat - 1) e = m0 at *
      refine lp_up (σ := (Nat → Nat → Int) × (Nat → Nat → Int) × Int) (P := fun t s => Z G mX5_doStep (d + 2 * n + 9) 0 0 64 [vr (some 40), vr (some (p + 2 + i.toNat)), vi x, vu, vi t] [] (mkC s.1 rv) K) (m 31 i.toNat) (fun t s => 0 ≤ t ∧ RunI B p a b s.1 s.2.1 rv s.2.2 ∧ rF a b v s.1 ∧ rM m s.2.1 ∧ (∀ j : Int, 0 ≤ j → j ≤ x → ∀ q, 51 ≤ q → q ≤ 54 → s.2.1 q j.toNat = m q j.toNat) ∧ ((t < m 31 i.toNat ∧ s.2.1 0 79 = 0 ∧ (s.2.1 51 (x + 1).toNat = i + 1 ∧ s.2.1 52 (x + 1).toNat = e ∧ s.2.1 53 (x + 1).toNat = m 31 i.toNat - 1 - t ∧ s.2.1 54 (x + 1).toNat = e) ∧ ∀ G d K, JZ G d K s.2.2 (x + 1) (i + 1) s.2.1 → JZ G d K n1 (x + 1) (i + 1) m0) ∨ ((¬ s.2.1 0 79 = 0 ∨ t = m 31 i.toNat) ∧ ∀ G d K, JZ G d K s.2.2 x e s.2.1 → JZ G d K n1 (x + 1) (i + 1) m0))) ?_ ?_ 0 (v, m0, n1) (by omega) ⟨by omega, i0, rF_r, rM0, fun j j0 j1 q _ _ => k0 j j0 j1 q, Or.inl ⟨by omega, z0, ⟨v1, v2, by dsimp only; rw [v3]; omega, v4⟩, fun _ _ _ j => j⟩⟩
      · rintro ⟨c', m', n'⟩ ⟨-, r1, r2, r3, r4, r5⟩
        dsimp only at *
        apply sX5_doStep_64 hR hq
        rw [rq c' r2]
        refine ⟨fun _ => ?_, fun q => by omega⟩
        rcases r5 with q | q
        · omega
        · exact k c' m' n' (fun G d K j => dj G d K (q.2 G d K j)) r1 r2 r3 r4
      · rintro t ⟨c', m', n'⟩ ht ⟨t0, r1, r2, r3, r4, r5⟩ ih
        dsimp only at *
        apply sX5_doStep_64 hR hq
        rw [rq c' r2, r1.2.2.2.1.1, c3]
        refine ⟨fun q => by omega, fun _ => ⟨fun q => ?_, fun q => ⟨by omega, ?_⟩⟩⟩
        · rcases r5 with g | g
          · exact absurd g.2.1 q
          · exact k c' m' n' (fun G d K j => dj G d K (g.2 G d K j)) r1 r2 r3 r4
        · rcases r5 with g | g
          · obtain ⟨g1, g2, ⟨g3, g4, g5, g6⟩, g7⟩ := g
            have := S G d c' m' (fun r A1 => Z G mX5_doStep (d + 2 * n + 9) 0 0 91 [vr (some 40), vr (some (p + 2 + i.toNat)), vi x, vu, vi t] (r.toList ++ []) A1 K) rv B p a b (x + 1) (i + 1) e n' hR hA hB r1 g2 (by omega) (by rw [rM_bM r3]; exact c4) (by omega) (by rw [rM_0 r3 (by decide)]; exact he) g4.symm (fun c2 m2 n2 o => ?_)
            · exact this
            · show Z G mX5_doStep (d + 2 * n + 9) 0 0 91 [vr (some 40), vr (some (p + 2 + i.toNat)), vi x, vu, vi t] [] (mkC c2 rv) K
              apply sX5_doStep_91 hR hq
              refine ⟨by omega, ?_⟩
              have q1 := o.2.2.2.2 (x + 1) (by omega) (by omega)
              have st2 : ∀ j : Int, 0 ≤ j → j ≤ x → ∀ q, 51 ≤ q → q ≤ 54 → m2 q j.toNat = m q j.toNat := fun j j0 j1 q u w => by rw [o.2.2.2.2 j j0 (by omega) q u w, r4 j j0 j1 q u w]
              by_cases z2 : m2 0 79 = 0
              · by_cases lst : t + 1 = m 31 i.toNat
                · refine ih (c2, m2, n2) ⟨by omega, o.2.1, rF_t r2 o.2.2.1, rM_t r3 o.2.2.2.1, st2, Or.inr ⟨Or.inr lst, fun G d K j => g7 G d K (o.1 G d K ?_)⟩⟩
                  refine J_last0 (by omega) z2 (by rw [q1 52 (by decide) (by decide), g4]) (by rw [q1 53 (by decide) (by decide), g5]; omega) ?_
                  rw [q1 54 (by decide) (by decide), g6, show x + 1 - 1 = x by omega]
                  exact j
                · have e53 : m2 53 (x + 1).toNat = m 31 i.toNat - 1 - t := by rw [q1 53 (by decide) (by decide), g5]
                  refine ih (c2, iu m2 53 (x + 1).toNat (m2 53 (x + 1).toNat - 1), n2) ⟨by omega, RunI_m o.2.1 hab' (fun i j _ f _ => iu_o (by omega)), rF_t r2 o.2.2.1, rM_t (rM_t r3 o.2.2.2.1) (fun i j _ _ _ _ _ _ _ f _ => iu_o (by omega)), fun j j0 j1 q u w => ?_, Or.inl ⟨by omega, ?_, ⟨?_, ?_, ?_, ?_⟩, fun G d K j => g7 G d K (o.1 G d K ?_)⟩⟩
                  · dsimp only; rw [iu_k (by omega)]; exact st2 j j0 j1 q u w
                  · dsimp only; rw [iu_o (by decide)]; exact z2
                  · dsimp only; rw [iu_o (by decide), q1 51 (by decide) (by decide)]; exact g3
                  · dsimp only; rw [iu_o (by decide), q1 52 (by decide) (by decide)]; exact g4
                  · dsimp only; rw [iu_eq, e53]; omega
                  · dsimp only; rw [iu_o (by decide), q1 54 (by decide) (by decide)]; exact g6
                  · refine J_last1 (by omega) z2 (by rw [q1 52 (by decide) (by decide), g4]) (by rw [e53]; omega) ?_
                    rw [q1 51 (by decide) (by decide), g3]
                    exact j
              · exact ih (c2, m2, n2) ⟨by omega, o.2.1, rF_t r2 o.2.2.1, rM_t r3 o.2.2.2.1, st2, Or.inr ⟨Or.inl z2, fun G d K j => g7 G d K (o.1 G d K (JZ_e z2 j))⟩⟩
          · exact absurd q (by rcases g.1 with y | y; exact y; omega)
theorem SpecW_of {n : Nat} (S : SpecB n) : SpecW n := by
  intro G d c m K rv B p a b x i e nn hR hA hB hI z hx sb hi he hl k
  obtain ⟨hX, hY, h8, h9, h10⟩ := id hI
  have hab := hA.2.2
  have hab' : 50 ≤ a ∧ 50 ≤ b := by omega
  have sh := hX.2.2
  have hp : p = 55 ∨ p = 119 := sh.1
  have s60 := sh.2.1
  have lt := sb.1
  have hi68 : 0 ≤ i ∧ i < m 0 68 := by omega
  have hq : isSt (p + 2 + i.toNat) := by unfold isSt; omega
  have n1k : nn ≤ 1000 := h10 z
  apply sX5_doStep_0 hR hq
  refine ⟨by omega, ?_⟩
  rw [h8.1]
  have f1 : rF a b c (iu c 40 8 (nn + 1)) := fun i j _ y _ => by rw [iu_ap, if_neg (by omega)]
  have hX1 := RX_f hX f1 rM_r
  have hY1 : RY B a b (iu c 40 8 (nn + 1)) m := RY_c hY hab' (fun i j y => by rw [iu_ap, if_neg (by omega)]) (fun _ _ _ _ _ => rfl)
  have f8 : iu c 40 8 (nn + 1) 40 8 = nn + 1 := iu_eq
  have f9 : iu c 40 8 (nn + 1) 40 9 = m 0 79 ∧ iu c 40 8 (nn + 1) 40 10 = m 0 80 := ⟨by rw [iu_k (by decide)]; exact h9.1, by rw [iu_k (by decide)]; exact h9.2.1⟩
  generalize iu c 40 8 (nn + 1) = c1 at *
  obtain ⟨rs, rr, sh1⟩ := id hX1
  obtain ⟨st, wf, nb⟩ := sh1.2.2.2.2.2 i hi (by omega)
  obtain ⟨s0, s1, s2, s3, s4, s5, s6, s7, s8, s9⟩ := st
  have cu := hY1.2.2.1
  have sdc := hY1.1 (m 0 81) cu.2
  have sd := sdc.1
  have okd : okSd c1 (sdA (m 0 81)) := okSd_of (by omega) rr sd (by have := sdc.2.2; have := sd.1; have := sd.2.1; omega)
  have so := sdA_c (m 0 81)
  refine C_wrongWith hR hq (by rw [cu.1]; omega) (by rw [cu.1]; exact okd) (by rw [cu.1]; exact sdc.2.1.2) (by rw [rs.1.1]; exact rs.1.2) (fun e2 => ?_) (fun v sq lc => ?_)
  · rw [s0] at e2
    have k9 := (wf_at hi wf).2.2.2.1 (Or.inl e2)
    have l := (rs.2.1 (m 31 i.toNat) k9.1 (by omega)).1.1
    have := (st_pre hX1 hY1 hi68).2.2.2.2 e2
    have eB : stB c1 (p + 2 + i.toNat) = mB m i := by unfold stB mB; rw [s3]
    have eE : stE2 c1 (p + 2 + i.toNat) = mE m i := by unfold stE2 mE; rw [s4, s2, l]
    rw [s2, eB, eE]
    omega
  · rw [wr_eq hX1 hY1 hi68]
    rw [cu.1] at sq
    have sf : SdF c1 v (sdA (m 0 81)) := by
      rcases sq with y | y
      · rw [y]; exact fun _ _ _ _ => rfl
      · exact y.1
    have fv : rF a b c1 v := fun i j y _ _ => sf i j (by omega) (by omega)
    have hXv := RX_f hX1 fv rM_r
    have hYv := RY_st hY1 hab' cu.2 sq
    have v8 : v 40 8 = nn + 1 := by rw [sf 40 8 (by omega) (by omega)]; exact f8
    have v9 : v 40 9 = m 0 79 ∧ v 40 10 = m 0 80 := by rw [sf 40 9 (by omega) (by omega), sf 40 10 (by omega) (by omega)]; exact f9
    have vq : v (p + 2 + i.toNat) 1 = m 36 i.toNat := by rw [sf _ _ (by omega) (by omega)]; exact s1
    have fcv := rF_t f1 fv
    have bad : ∀ W : Int, 0 < W → (∀ G d K, JZ G d K (nn + 1) x e (iu (iu m 0 79 W) 0 80 (m 36 i.toNat)) → JZ G d K nn x i m) → K none (mkC (iu (iu v 40 9 W) 40 10 (m 36 i.toNat)) rv) := by
      intro W W0 jj
      have fe : rF a b v (iu (iu v 40 9 W) 40 10 (m 36 i.toNat)) := fun i j _ y _ => by rw [iu_ap, if_neg (by omega), iu_ap, if_neg (by omega)]
      have ge : rM m (iu (iu m 0 79 W) 0 80 (m 36 i.toNat)) := fun i j _ _ _ _ _ _ _ _ y => by rw [iu_ap, if_neg (by omega), iu_ap, if_neg (by omega)]
      refine k _ _ (nn + 1) ⟨jj, ⟨RX_f hXv fe ge, RY_c hYv hab' (fun i j y => by rw [iu_ap, if_neg (by omega), iu_ap, if_neg (by omega)]) (fun i j _ _ y => by rw [iu_ap, if_neg (by omega), iu_ap, if_neg (by omega)]), ⟨?_, by omega⟩, ⟨?_, ?_, ?_⟩, fun y => ?_⟩, rF_t fcv fe, ge, fun j _ _ t t0 t1 => ?_⟩
      · rw [iu_k (by decide), iu_k (by decide)]; exact v8
      · rw [iu_k (by decide), iu_eq, iu_k (by decide), iu_eq]
      · rw [iu_eq, iu_eq]
      · rw [iu_k (by decide), iu_eq]; omega
      · rw [iu_k (by decide), iu_eq] at y; omega
      · rw [iu_o (by omega), iu_o (by omega)]
    have wr' : 0 ≤ wrM m i := wrS_r.1
    apply sX5_doStep_15 hR hq
    rw [vq, v8]
    refine ⟨fun nz => ⟨fun y => absurd y nz, fun _ => ?_⟩, fun w0 => ⟨fun le => ⟨fun _ => ?_, fun y => absurd w0 y⟩, fun gt => ?_⟩⟩
    · exact bad _ (by omega) (fun G d K j => J_wr hX hY hab' hi68 (by omega) z hl (by omega) (fun _ => ⟨e, j⟩) (fun y => absurd y nz) (fun y => absurd y nz))
    · refine W53 S hR hA hB ⟨hXv, hYv, ⟨v8, by omega⟩, ⟨v9.1, v9.2, h9.2.2⟩, fun _ => le⟩ z hx sb hi he w0 (fun e6 t1 => ?_) (fun c' m' n' dj ri fr gm ss => ?_)
      · have := lc (by rw [s0]; exact e6) (by rw [s7]; exact t1)
        rw [cu.1] at this
        exact this (by rw [near_eq rr sd]; exact (wr0 w0).2.2.2 e6 t1)
      · refine k c' m' n' ⟨fun G d K j => ?_, ri, rF_t fcv fr, gm, ss⟩
        exact J_wr hX hY hab' hi68 (by omega) z hl (by omega) (fun y => absurd w0 y) (fun _ y => by omega) (fun _ _ => dj G d K j)
    · exact bad 6 (by omega) (fun G d K j => J_wr hX hY hab' hi68 (by omega) z hl (by omega) (fun y => absurd w0 y) (fun _ _ => ⟨e, j⟩) (fun _ y => by omega))
theorem C_doSteps : ∀ n, SpecB n
  | 0 => SpecB_0
  | n + 1 => SpecB_s (SpecW_of (C_doSteps n))

