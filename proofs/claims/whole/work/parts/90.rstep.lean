/-! ===== reading in step: a step, the class ===== -/
def SpecS (n : Nat) : Prop := ∀ (G : ZG) (d : Nat) (c m : Nat → Nat → Int) (K : Option AV → AH → Prop) (rv : Nat → Nat → Option Nat) (o0 : Nat) (x1 : Int), RC rv → isSh o0 → rv o0 4 = some 54 → PR o0 c m → m 0 51 = 0 → x1 = m 0 74 → x1 + n = 4 → PM m → (∀ c' rv' m' (q : Option Nat), StO o0 c rv m c' rv' m' → (m' 0 51 = 0 → m' 0 45 ≠ 2 ∧ Blk o0 rv' (m' 42) n (m 0 70) (m' 0 70) ∧ q = hd o0 (m 0 70) (m' 0 70)) → K (some (vr q)) (mkC c' rv')) → Z G mX6_readSteps (d + 3 * n + 8) 0 0 0 [vr (some o0), vi x1, vu, vu, vu, vu] [] (mkC c rv) K
def SpecT (n : Nat) : Prop := ∀ (G : ZG) (d : Nat) (c m : Nat → Nat → Int) (K : Option AV → AH → Prop) (rv : Nat → Nat → Option Nat) (o0 : Nat) (x1 : Int), RC rv → isSh o0 → rv o0 4 = some 54 → PR o0 c m → m 0 51 = 0 → x1 = m 0 74 → x1 + n = 4 → PM m → m 0 45 = 2 → (∀ c' rv' m' (q : Option Nat), StO o0 c rv m c' rv' m' → (m' 0 51 = 0 → (∃ n', n = n' + 1 ∧ StB (Blk o0 rv' (m' 42) n') o0 rv' (m' 42) (m 0 70) (m' 0 70)) ∧ q = some (o0 + 2 + (m 0 70).toNat) ∧ m 0 70 < 60 ∧ rv' (o0 + 2 + (m 0 70).toNat) 12 = none) → K (some (vr q)) (mkC c' rv')) → Z G mX6_readStep (d + 3 * n + 7) 0 0 0 [vr (some o0), vi x1, vu, vu] [] (mkC c rv) K
theorem sR_r {rv : Nat → Nat → Option Nat} {o : Nat} {s : Int} : sR rv rv o s := fun _ _ _ => rfl
theorem L_w {G : ZG} {d : Nat} {K : Option AV → AH → Prop} {m : Nat → Nat → Int} (h : PM m) (z : m 0 51 = 0) (h2 : m 0 45 = 2) (k : CZ G d K (stepV m).2) : CZ G d K m := L_step h (by omega) (by omega) k z
/-- what goes wrong at a step's beginning -/
theorem StO_bad {o : Nat} {c c' m : Nat → Nat → Int} {rv rv' : Nat → Nat → Option Nat} (h : PM m) (z : m 0 51 = 0) (h2 : m 0 45 = 2) (pf : PF o c' (stepV m).2) (f : sF c c' o (m 0 70)) (r : sR rv rv' o (m 0 70)) (nz : ¬ c' o 12 = 0) : StO o c rv m c' rv' (stepV m).2 ∧ ¬ (stepV m).2 0 51 = 0 := by
  have n : ¬ (stepV m).2 0 51 = 0 := by rw [← pf.1]; exact nz
  exact ⟨⟨fun G d K k => L_w h z h2 k, ⟨pf, fun q => absurd q n⟩, f, r, mF_step h.1, fun q => absurd q n⟩, n⟩
theorem SpecT_0 : SpecT 0 := by
  intro G d c m K rv o0 x1 hR ho ht h z hx hn hm h2 k
  refine C_newStep hR ho ht h z hx (fun _ c' pf f nz => ?_) (fun _ _ _ lt => by omega)
  obtain ⟨s, n⟩ := StO_bad (rv := rv) (rv' := rv) hm z h2 pf f sR_r nz
  exact k _ _ _ _ s (fun q => absurd q n)
theorem becR_sR {rv : Nat → Nat → Option Nat} {o : Nat} {s : Int} (hs : 0 ≤ s ∧ s < 60) : sR rv (becR rv (o + 2 + s.toNat)) o s := by
  unfold becR
  exact sR_u (sR_u (sR_u sR_r (by omega)) (by omega)) (by omega)
theorem becR_0 {rv : Nat → Nat → Option Nat} {p : Nat} : becR rv p p 12 = none ∧ becR rv p p 11 = none ∧ becR rv p p 10 = none := by
  unfold becR
  refine ⟨ru_eq, ?_, ?_⟩
  · rw [ru_k (by decide)]; exact ru_eq
  · rw [ru_k (by decide), ru_k (by decide)]; exact ru_eq
theorem step_fin {m : Nat → Nat → Int} (k0 : ¬ knd (wM m) = -1) (l : ¬ (m 0 70 = 60 ∨ 4 ≤ m 0 74)) : (stepV m).2 = finV (knd (wM m)) (m 0 70) (nws m (knd (wM m))) := by
  unfold stepV finV
  rw [if_neg k0, if_neg l]
  split
  · rfl
  · split <;> rfl
/-- the facts of a step's middle -/
theorem mid_all {m : Nat → Nat → Int} {kd : Int} (h : MT m) (hi : 0 ≤ m 0 70) : kF (nws m kd) (optW kd (m 0 70) (midV kd (m 0 70) (nws m kd))) ∧ MT (optW kd (m 0 70) (midV kd (m 0 70) (nws m kd))) ∧ q42 (m 0 70) (nws m kd) (optW kd (m 0 70) (midV kd (m 0 70) (nws m kd))) := by
  have t1 := (nws_f (kd := kd) h).1
  have b := mid_f (kd := kd) (i := m 0 70) t1
  have e := optW_f (kd := kd) (i := m 0 70) b.2
  exact ⟨kF_t b.1 e.1, e.2, q_t (q_mid hi) (q_optW hi)⟩
/-- a step that holds none -/
theorem T_simple {n : Nat} {G : ZG} {d : Nat} {c m : Nat → Nat → Int} {K : Option AV → AH → Prop} {rv : Nat → Nat → Option Nat} {o0 : Nat} {x1 : Int} (hR : RC rv) (ho : isSh o0) (ht : rv o0 4 = some 54) (z : m 0 51 = 0) (hm : PM m) (h2 : m 0 45 = 2) (hk : 0 ≤ knd (wM m) ∧ knd (wM m) ≤ 4) (l60 : m 0 70 < 60) (l4 : m 0 74 < 4) (k : ∀ c' rv' m' (q : Option Nat), StO o0 c rv m c' rv' m' → (m' 0 51 = 0 → (∃ n', n = n' + 1 ∧ StB (Blk o0 rv' (m' 42) n') o0 rv' (m' 42) (m 0 70) (m' 0 70)) ∧ q = some (o0 + 2 + (m 0 70).toNat) ∧ m 0 70 < 60 ∧ rv' (o0 + 2 + (m 0 70).toNat) 12 = none) → K (some (vr q)) (mkC c' rv')) (nn : ∃ n', n = n' + 1) (c1 : Nat → Nat → Int) (p1 : PR o0 c1 (nws m (knd (wM m)))) (f1 : sF c c1 o0 (m 0 70)) : Z G mX6_readStep (d + 7) 0 0 70 [vr (some o0), vi x1, vi (knd (wM m)), vr (some (o0 + 2 + (m 0 70).toNat))] [] (mkC c1 (becR rv (o0 + 2 + (m 0 70).toNat))) K := by
  have i0 := hm.2.1
  have r1 := becR_sR (rv := rv) (o := o0) (s := m 0 70) (by omega)
  have nw := nws_f (kd := knd (wM m)) hm.1
  have n42 := nws42 (m := m) (kd := knd (wM m)) i0.1
  have z1 : nws m (knd (wM m)) 0 51 = 0 := by rw [nw.2.1 0 51 (by decide) (by omega)]; exact z
  obtain ⟨kf, kt, kq⟩ := mid_all (kd := knd (wM m)) hm.1 i0.1
  have es := step_fin (m := m) (by omega) (by omega)
  refine C_simple (RC_sR hR ho r1) ho (sR_4 r1 ht) p1 z1 (by rw [nw.2.2]; omega) hk (fun c' q f => ?_)
  refine k c' _ (stepV m).2 _ ⟨fun G d K k => L_w hm z h2 k, by rw [es]; exact q, sF_t f1 (sF_h f (by omega)) (by omega), r1, mF_step hm.1, fun w => ?_⟩ (fun w => ?_)
  all_goals
    rw [es] at w ⊢
    unfold finV at w ⊢
    have o51 := q.1.2.2
    unfold finV at o51
    by_cases g1 : 0 < midV (knd (wM m)) (m 0 70) (nws m (knd (wM m))) 0 51
    · rw [if_pos g1] at w; omega
    rw [if_neg g1] at w o51 ⊢
    by_cases g2 : 0 < optW (knd (wM m)) (m 0 70) (midV (knd (wM m)) (m 0 70) (nws m (knd (wM m)))) 0 51
    · rw [if_pos g2] at w; omega
    rw [if_neg g2] at w o51 ⊢
    generalize optW (knd (wM m)) (m 0 70) (midV (knd (wM m)) (m 0 70) (nws m (knd (wM m)))) = m3 at *
    unfold endV at w ⊢
    rw [if_neg (by omega)] at w ⊢
    by_cases g3 : m3 0 45 = 4 ∧ m3 0 48 = 59
    rotate_left
    · rw [if_neg g3] at w; exact absurd w (mfail_51 (by omega))
    rw [if_pos g3]
    have e70 : nx m3 0 70 = m 0 70 + 1 := by rw [nx_f.2 70 (by decide) (by decide) (by decide) (by decide), kf 0 70 (by decide) (by decide) (by omega)]; exact nw.2.2
    have e74 : nx m3 0 74 = m 0 74 := by rw [nx_f.2 74 (by decide) (by decide) (by decide) (by decide), kf 0 74 (by decide) (by decide) (by omega)]; exact nw.2.1 0 74 (by decide) (by omega)
    have e45 : ∀ j, nx m3 45 j = m 45 j := fun j => by rw [nx_f.1 45 (by decide), kf 45 j (by decide) (by decide) (by omega)]; exact nw.2.1 45 j (by decide) (by omega)
    have e46 : ∀ j, nx m3 46 j = m 46 j := fun j => by rw [nx_f.1 46 (by decide), kf 46 j (by decide) (by decide) (by omega)]; exact nw.2.1 46 j (by decide) (by omega)
    dsimp only
  · rw [e70, e74]
    refine ⟨⟨MT_nx kt, by rw [e70]; omega, by rw [e74]; have := hm.2.2.1; omega, fun t t0 t1 => ?_⟩, rfl, fun t _ _ => ⟨e45 _, e46 _⟩, by omega, fun j g => ?_⟩
    · rw [e74] at t1
      rw [e45, e70]; have := hm.2.2.2 t t0 t1; omega
    · rw [nx42, kq j (by omega), n42.1 j g]
  · refine ⟨?_, rfl, l60, becR_0.1⟩
    obtain ⟨n', en⟩ := nn
    refine ⟨n', en, ?_⟩
    rw [e70]
    refine ⟨by omega, Or.inl ?_⟩
    rw [nx42, kq _ (by omega), n42.2]
    exact ⟨hk.1, hk.2, rfl⟩

