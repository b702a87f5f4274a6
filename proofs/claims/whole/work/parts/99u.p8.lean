/-! ===== the public methods: the needle ===== -/
theorem lkCR {B s : Int} {v m : Nat → Nat → Int} {rv : Nat → Nat → Option Nat} (r : RL B v rv m) (hs : 0 ≤ s ∧ s ≤ 1) : lkC v (sdA s) ∧ lkM m s := by
  have d := (sdR r hs).1
  have s3 := r.2.2.2.1
  have n10 := s3.1
  have d4 := d.2.2.2.1
  unfold lkC lkM
  rw [d.2.2.1, d.1]
  rcases d4 with e | e
  · exact ⟨Or.inl e, Or.inl e⟩
  · have l12 := (s3.2.1 (m 10 s.toNat) e.2.1 (by omega)).1.1
    have lv := (s3.2.2 (m 10 s.toNat) e.2.1 e.2.2.1).2.2
    refine ⟨Or.inr ⟨e.1, ⟨e.2.1, by rw [n10.1]; exact e.2.2.1, by rw [l12]; exact e.2.2.2⟩, fun k k0 k1 => ?_⟩, Or.inr ⟨by omega, fun k k0 k1 => (lv k k0 (by omega)).2⟩⟩
    have := lv k k0 (by omega)
    rw [this.1]; exact this.2
theorem rg_eq {B s : Int} {v m w : Nat → Nat → Int} {rv : Nat → Nat → Option Nat} (r : RL B v rv m) (hs : 0 ≤ s ∧ s ≤ 1) (l : leastC v (sdA s)) (lm : leastM m w s) : rgK v (sdA s) = rgN m w s := by
  have d := (sdR r hs).1
  unfold rgK rgN
  rw [d.2.2.1]
  rcases d.2.2.2.1 with e | e
  · rw [if_pos e, if_pos e]
  · rw [if_neg (by omega), if_neg (by omega)]
    exact ring_eq r hs e.1 l lm ⟨e.2.1, e.2.2.1⟩ e.2.2.2
theorem pTr_eq {B s : Int} {v m w : Nat → Nat → Int} {rv : Nat → Nat → Option Nat} {t : Nat} (r : RL B v rv m) (hs : 0 ≤ s ∧ s ≤ 1) (l : leastC v (sdA s)) (lm : leastM m w s) : pTC v (sdA s) t = pTM m w s t := by
  have d := (sdR r hs).1
  have n7 := d.2.1
  have pe := pl_eq r.2.2.2.2.1 d l lm
  unfold pTC pTM
  rw [d.1, d.2.2.1]
  exact pT_congr n7.1 (fun k k0 k1 => pe k k0 k1) (Or.inr (rg_eq r hs l lm)) (fun t => r.2.2.2.2.2.2.2.2.2.2.1.2.2.2 t) t
theorem pl_mS {m w : Nat → Nat → Int} {s : Int} (h : plM m w s) : ∀ i j, ¬ mS i j → w i j = m i j := fun i j q => by unfold mS at q; exact h.1 i j (by omega) (by omega) (by omega)
theorem nkR {B : Int} {v m : Nat → Nat → Int} {rv : Nat → Nat → Option Nat} (r : RL B v rv m) : nOk v ∧ kOk (m 25) (m 26) (m 0 37) := ⟨r.2.2.2.2.2.2.2.2.2.2.1.1, r.2.2.2.2.2.2.2.2.2.2.1.2.2.1⟩
theorem seen_cS {B : Int} {v w m : Nat → Nat → Int} {rv : Nat → Nat → Option Nat} (r : RL B v rv m) (f : ∀ i, i ≠ 39 → w i = v i) : RL B w rv m := RL_f r (fun i j q => by unfold cS at q; rw [f i (by omega)]) (fun _ _ _ => rfl) (by rw [f 0 (by decide)]; exact r.2.1)
/-- the class listens -/
theorem C_heardK {G : ZG} {d : Nat} {K : Option AV → AH → Prop} {B x1 x2 : Int} {c m : Nat → Nat → Int} {rv : Nat → Nat → Option Nat} (h : RL B c rv m) (hB : 0 ≤ B ∧ B ≤ 10000000) (k1 : ¬ ((0 ≤ x1 ∧ x1 ≤ 1) ∧ 0 ≤ x2 ∧ x2 ≤ 20000) → K (some (vi (-1))) (mkC (iu c 0 17 1) rv)) (k5 : (0 ≤ x1 ∧ x1 ≤ 1) ∧ 0 ≤ x2 ∧ x2 ≤ 20000 → ¬ stuckM m x1 = -1 → ∀ v, RL B v rv m → K (some (vi (-1))) (mkC (iu v 0 17 5) rv)) (k0 : (0 ≤ x1 ∧ x1 ≤ 1) ∧ 0 ≤ x2 ∧ x2 ≤ 20000 → stuckM m x1 = -1 → ∀ v w, RL B v rv m → RL B w rv m → leastC v (sdA x1) → K (some (vi (pTC v (sdA x1) x2.toNat))) (mkC (iu w 0 17 (if pTC v (sdA x1) x2.toNat = -1 then 6 else 0)) rv)) : Z G mX11_heard (d + 5) 0 0 0 [vr (some 0), vi x1, vi x2] [] (mkC c rv) K := by
  apply sX11_heard_0 h.1
  refine ⟨fun p => k1 (by omega), fun p => ⟨fun q => ⟨by omega, okC h hB p, (sdR h p).2.1.2, fun v sv => ?_⟩, fun q => k1 (by omega)⟩⟩
  obtain ⟨r, o, l⟩ := stl h hB p sv
  have nv : nearC v (sdA x1) 40 = stuckM m x1 := nearR r p
  rw [nearR h p] at l ⊢
  rw [nv]
  refine ⟨fun st => ⟨by omega, o, st, (l st).1, (lkCR r p).1, by have := r.2.2.2.1.1; omega, (nkR r).1, q, fun w hw => ?_⟩, fun st => k5 ⟨p, q⟩ st v r⟩
  exact k0 ⟨p, q⟩ st v w r (seen_cS r hw.1) (l st).1
/-- the model listens -/
theorem M_listenK {G : ZG} {d : Nat} {K : Option AV → AH → Prop} {B x1 x2 : Int} {c m : Nat → Nat → Int} {rv : Nat → Nat → Option Nat} (h : RL B c rv m) (k1 : ¬ ((0 ≤ x1 ∧ x1 ≤ 1) ∧ 0 ≤ x2 ∧ x2 ≤ 20000) → K (some (vi 1)) (mkM m)) (k5 : (0 ≤ x1 ∧ x1 ≤ 1) ∧ 0 ≤ x2 ∧ x2 ≤ 20000 → ¬ stuckM m x1 = -1 → K (some (vi 5)) (mkM m)) (k0 : (0 ≤ x1 ∧ x1 ≤ 1) ∧ 0 ≤ x2 ∧ x2 ≤ 20000 → stuckM m x1 = -1 → ∀ w, plM m w x1 → K (some (vi (if pTM m w x1 x2.toNat = -1 then 6 else 0))) (mkM (iu w 0 40 (pTM m w x1 x2.toNat)))) : Z G mX12_listen (d + 5) 0 0 0 [vr (some 0), vi x1, vi x2] [] (mkM m) K := by
  apply sX12_listen_0
  refine ⟨fun p => k1 (by omega), fun p => ⟨fun q => k1 (by omega), fun q => ⟨fun r => ⟨okM h p, fun st => ⟨okM h p, st, (lkCR h p).2, (nkR h).2, by omega, fun w hw => ⟨fun e => ?_, fun e => ?_⟩⟩, fun st => k5 ⟨p, q, r⟩ st⟩, fun r => k1 (by omega)⟩⟩⟩
  · have := k0 ⟨p, q, r⟩ st w hw.1
    rw [if_neg e] at this; exact this
  · have := k0 ⟨p, q, r⟩ st w hw.1
    rw [if_pos e] at this; exact this
theorem h40_mS {m w : Nat → Nat → Int} {s x : Int} (h : plM m w s) : ∀ i j, ¬ mS i j → iu w 0 40 x i j = m i j := fun i j q => by
  have := pl_mS h i j q
  unfold mS at q
  rw [iu_ap, if_neg (by omega)]; exact this
theorem iu_2 {v : Nat → Nat → Int} {o k : Nat} {x : Int} : iu (iu v o k x) o k x = iu v o k x := by
  funext i j
  rw [iu_ap]
  by_cases g : i = o ∧ j = k
  · rw [if_pos g, g.1, g.2, iu_eq]
  · rw [if_neg g]
theorem heard6 {G : ZG} {d : Nat} {u : Nat → Nat → Int} {K : Option AV → AH → Prop} {x1 x2 y0 : Int} (h : (y0 ≤ 0 → K (some (vi (u 0 40))) (mkM (iu u 0 0 0))) ∧ (0 < y0 → K (some (vi (-1))) (mkM (iu u 0 0 y0)))) : Z G mX12_heard (d + 6) 0 0 6 [vr (some 0), vi x1, vi x2, vu] [vi y0] (mkM u) K := Z.fg (L' := [vr (some 0), vu, vu, vu]) ⟨Or.inl rfl, Or.inr rfl, Or.inr rfl, Or.inl rfl, trivial⟩ (sX12_heard_6 h)
theorem songHeard6 {G : ZG} {d : Nat} {u : Nat → Nat → Int} {K : Option AV → AH → Prop} {x1 x2 y0 : Int} (h : Z G mX12_songHeard (d + 6) 0 0 6 [vr (some 0), vi x1, vu, vu] [vi y0] (mkM u) K) : Z G mX12_songHeard (d + 6) 0 0 6 [vr (some 0), vi x1, vi x2, vu] [vi y0] (mkM u) K := Z.fg (L' := [vr (some 0), vi x1, vu, vu]) ⟨Or.inl rfl, Or.inl rfl, Or.inr rfl, Or.inl rfl, trivial⟩ h
theorem P_heard {G G' : ZG} {c m : Nat → Nat → Int} {rv : Nat → Nat → Option Nat} {B : Int} {x1 x2 : Int} (h : RL B c rv m) (hB : 0 ≤ B ∧ B ≤ 10000000) (hx1 : -2147483648 ≤ x1 ∧ x1 ≤ 2147483647) (hx2 : -2147483648 ≤ x2 ∧ x2 ≤ 2147483647) : Z G mX11_heard 40 0 0 0 [vr (some 0), vi x1, vi x2] [] (mkC c rv) (QC G' mX12_heard [vr (some 0), vi x1, vi x2, vu] m (B + 1000)) := by
  refine C_heardK h hB (fun p => ⟨_, rv, rfl, ?_⟩) (fun p st v r => ⟨_, rv, rfl, ?_⟩) (fun p st v w r r' l => ⟨_, rv, rfl, ?_⟩)
  all_goals apply sX12_heard_0
  · refine M_listenK h (fun _ => ?_) (fun q => absurd q p) (fun q => absurd q p)
    apply heard6
    exact ⟨fun e => by omega, fun _ => QM_u h⟩
  · refine M_listenK h (fun q => absurd p q) (fun _ _ => ?_) (fun _ q => absurd q st)
    apply heard6
    exact ⟨fun e => by omega, fun _ => QM_u r⟩
  · refine M_listenK h (fun q => absurd p q) (fun _ q => absurd st q) (fun _ _ u hu => ?_)
    rw [pTr_eq r p.1 l hu.2]
    by_cases e : pTM m u x1 x2.toNat = -1
    · rw [if_pos e]
      apply heard6
      refine ⟨fun e => by omega, fun _ => ?_⟩
      rw [e]
      exact QM_v r' (h40_mS hu)
    · rw [if_neg e]
      apply heard6
      refine ⟨fun _ => ?_, fun e => by omega⟩
      rw [iu_eq]
      exact QM_v r' (h40_mS hu)
theorem P_songHeard {G G' : ZG} {c m : Nat → Nat → Int} {rv : Nat → Nat → Option Nat} {B : Int} {x1 x2 : Int} (h : RL B c rv m) (hB : 0 ≤ B ∧ B ≤ 10000000) (hx1 : -2147483648 ≤ x1 ∧ x1 ≤ 2147483647) (hx2 : -2147483648 ≤ x2 ∧ x2 ≤ 2147483647) : Z G mX11_songHeard 40 0 0 0 [vr (some 0), vi x1, vi x2, vu] [] (mkC c rv) (QC G' mX12_songHeard [vr (some 0), vi x1, vi x2, vu] m (B + 1000)) := by
  apply sX11_songHeard_0 h.1
  have stat : ∀ (v : Nat → Nat → Int) (y0 x : Int), ¬ x = 0 → QC G' mX12_songHeard [vr (some 0), vi x1, vi x2, vu] m (B + 1000) (some (vi (-1))) (mkC (iu v 0 17 x) rv) → Z G mX11_songHeard (34 + 6) 0 0 6 [vr (some 0), vi x1, vi x2, vu] [vi y0] (mkC (iu v 0 17 x) rv) (QC G' mX12_songHeard [vr (some 0), vi x1, vi x2, vu] m (B + 1000)) := fun v y0 x n k => by
    refine Z.fg (L' := [vr (some 0), vi x1, vu, vu]) ⟨Or.inl rfl, Or.inl rfl, Or.inr rfl, Or.inl rfl, trivial⟩ ?_
    apply sX11_songHeard_6 h.1
    rw [iu_eq]
    exact ⟨fun e => absurd e n, fun _ => k⟩
  refine C_heardK h hB (fun p => stat _ _ _ (by decide) ⟨_, rv, rfl, ?_⟩) (fun p st v r => stat _ _ _ (by decide) ⟨_, rv, rfl, ?_⟩) (fun p st v w r r' l => ?_)
  · apply sX12_songHeard_0
    refine M_listenK h (fun _ => ?_) (fun q => absurd q p) (fun q => absurd q p)
    apply songHeard6
    apply sX12_songHeard_6
    exact ⟨fun e => by omega, fun _ => QM_u h⟩
  · apply sX12_songHeard_0
    refine M_listenK h (fun q => absurd p q) (fun _ _ => ?_) (fun _ q => absurd q st)
    apply songHeard6
    apply sX12_songHeard_6
    exact ⟨fun e => by omega, fun _ => QM_u r⟩
  · have d := (sdR r' p.1).1
    have n4 := d.1
    have n7 := d.2.1
    have so := sdA_c x1
    by_cases e : pTC v (sdA x1) x2.toNat = -1
    · rw [if_pos e]
      refine stat _ _ _ (by decide) ⟨_, rv, rfl, ?_⟩
      apply sX12_songHeard_0
      refine M_listenK h (fun q => absurd p q) (fun _ q => absurd st q) (fun _ _ u hu => ?_)
      rw [pTr_eq r p.1 l hu.2] at e
      rw [if_pos e, e]
      apply songHeard6
      apply sX12_songHeard_6
      exact ⟨fun e => by omega, fun _ => QM_v r' (h40_mS hu)⟩
    · rw [if_neg e]
      show Z G mX11_songHeard (34 + 6) 0 0 6 [vr (some 0), vi x1, vi x2, vu] [vi (pTC v (sdA x1) x2.toNat)] _ _
      refine Z.fg (L' := [vr (some 0), vi x1, vu, vu]) ⟨Or.inl rfl, Or.inl rfl, Or.inr rfl, Or.inl rfl, trivial⟩ ?_
      apply sX11_songHeard_6 h.1
      rw [iu_eq, iu_o (i := sdA x1) (j := 4) (by omega), iu_o (i := sdA x1 + 2) (by omega), iu_o (i := sdA x1) (j := 5) (by omega)]
      refine ⟨fun _ => ⟨by omega, by omega, _, rv, rfl, ?_⟩, fun n => absurd rfl n⟩
      have r2 : RL (B + 1000) (iu w 0 17 0) rv (iu m 0 0 0) := RL_B (RL_u r' 0) (by omega)
      have iuiu : iu (iu w 0 17 0) 0 17 0 = iu w 0 17 0 := iu_2
      rw [iuiu]
      apply sX12_songHeard_0
      refine M_listenK h (fun q => absurd p q) (fun _ q => absurd st q) (fun _ _ u hu => ?_)
      have pe := pTr_eq (t := x2.toNat) r p.1 l hu.2
      rw [pe] at e ⊢
      have dm := (sdR r p.1).1
      have pr := pT_r (n := m 7 x1.toNat) (lb := m 10 x1.toNat) (rg := rgN m u x1) (pl := fun k => u 15 (400 * x1 + k).toNat) (kn := knv (m 25) (m 26) (m 0 37)) n7.1 x2.toNat
      have pr' : 0 ≤ pTM m u x1 x2.toNat ∧ pTM m u x1 x2.toNat < alN (m 7 x1.toNat) (m 10 x1.toNat) := by
        rcases pr with y | y
        · exact absurd y e
        · exact y
      rw [if_neg e]
      apply songHeard6
      apply sX12_songHeard_6
      have f7 : iu u 0 40 (pTM m u x1 x2.toNat) 7 x1.toNat = m 7 x1.toNat := by rw [iu_o (by decide)]; exact hu.1 7 _ (by decide) (by decide) (by omega)
      have f10 : iu u 0 40 (pTM m u x1 x2.toNat) 10 x1.toNat = m 10 x1.toNat := by rw [iu_o (by decide)]; exact hu.1 10 _ (by decide) (by decide) (by omega)
      have f9 : ∀ j, iu u 0 40 (pTM m u x1 x2.toNat) 9 j = m 9 j := fun j => by rw [iu_o (by decide)]; exact hu.1 9 _ (by decide) (by decide) (by omega)
      rw [iu_eq, f7, f10, f9]
      have al : alN (m 7 x1.toNat) (m 10 x1.toNat) ≤ 408 := by unfold alN; split <;> omega
      refine ⟨fun _ => ⟨by omega, fun g => ⟨by omega, ?_⟩, fun g => ⟨by omega, by omega, ?_⟩⟩, fun e => by omega⟩
      · rw [if_neg (by omega), d.2.2.1]
        exact QM_v r' (h40_mS hu)
      · rw [if_pos (by omega), (d.2.2.2.2 _ (by omega) (by omega)).1.2]
        exact QM_v r' (h40_mS hu)
theorem P_missed {G G' : ZG} {c m : Nat → Nat → Int} {rv : Nat → Nat → Option Nat} {B : Int} {x1 : Int} (h : RL B c rv m) (hB : 0 ≤ B ∧ B ≤ 10000000) (hx1 : -2147483648 ≤ x1 ∧ x1 ≤ 2147483647) : Z G mX11_missed 40 0 0 0 [vr (some 0), vi x1] [] (mkC c rv) (QC G' mX12_missed [vr (some 0), vi x1, vu, vu, vu] m (B + 1000)) := by
  apply sX11_missed_0 h.1
  refine ⟨fun p => ⟨by omega, okC h hB p, (sdR h p).2.1.2, fun v sv => ?_⟩, fun p => ⟨_, rv, rfl, sX12_missed_0 ⟨fun e => absurd e p, fun _ => QM_u h⟩⟩⟩
  obtain ⟨r, o, l⟩ := stl h hB p sv
  have nv : nearC v (sdA x1) 40 = stuckM m x1 := nearR r p
  rw [nearR h p] at l ⊢
  rw [nv]
  have d := (sdR r p).1
  have n4 := d.1
  have n7 := d.2.1
  refine ⟨fun st => ⟨by omega, o, st, (l st).1, (lkCR r p).1, by have := r.2.2.2.1.1; omega, (nkR r).1, fun w hw => ⟨_, rv, rfl, ?_⟩⟩, fun st => ⟨_, rv, rfl, sX12_missed_0 ⟨fun _ => ⟨okM h p, fun e => absurd e st, fun _ => QM_u r⟩, fun e => absurd p e⟩⟩⟩
  refine sX12_missed_0 ⟨fun _ => ⟨okM h p, fun _ => ⟨okM h p, st, (lkCR h p).2, (nkR h).2, by decide, fun u hu => ?_⟩, fun e => absurd st e⟩, fun e => absurd p e⟩
  have pe := pl_eq r.2.2.2.2.1 d (l st).1 hu.1.2
  have same : ∀ j : Int, 0 ≤ j → j < m 7 x1.toNat → w 39 j.toNat = u 27 j.toNat := fun j j0 j1 => by
    rw [hw.2 j j0 (by omega), hu.2 j j0 (by omega)]
    refine c01_c ?_
    rw [n4, d.2.2.1]
    exact plB_congr n7.1 (fun k k0 k1 => pe k k0 k1) (Or.inr (rg_eq r p (l st).1 hu.1.2)) (fun t => r.2.2.2.2.2.2.2.2.2.2.1.2.2.2 t) _ _
  have eN : unN (w 39) (v (sdA x1) 4).toNat = cntf (fun j => u 27 j.toNat = 0) (m 7 x1.toNat).toNat := by
    unfold unN
    rw [n4]
    exact cntf_congr _ (fun j j0 j1 => by rw [same j j0 (by omega)])
  rw [eN]
  have f7 : u 7 x1.toNat = m 7 x1.toNat := hu.1.1 7 _ (by decide) (by decide) (by omega)
  refine lp_up (P := fun q (y : Int) => Z G' mX12_missed (35 + 5) 0 0 42 [vr (some 0), vi x1, vu, vi y, vi q] [] (mkM u) (QM (some (vi (cntf (fun j => u 27 j.toNat = 0) (m 7 x1.toNat).toNat))) (iu w 0 17 0) rv (B + 1000))) (m 7 x1.toNat) (fun q y => 0 ≤ q ∧ y = cntf (fun j => u 27 j.toNat = 0) q.toNat) ?_ ?_ 0 0 (by omega) ⟨by omega, rfl⟩
  · rintro y ⟨-, ey⟩
    apply sX12_missed_42
    rw [f7]
    refine ⟨by omega, fun _ => ?_, fun e => by omega⟩
    rw [ey]
    exact QM_v (seen_cS r hw.1) (pl_mS hu.1)
  · rintro q y hq ⟨q0, ey⟩ ih
    have cr := cntf_r (P := fun j => u 27 j.toNat = 0) q.toNat
    have ts : (q + 1).toNat = q.toNat + 1 := by omega
    have tq : ((q.toNat : Nat) : Int) = q := by omega
    apply sX12_missed_42
    rw [f7]
    refine ⟨by omega, fun e => by omega, fun _ => ⟨by omega, fun z => ⟨by omega, by omega, ih _ ⟨by omega, ?_⟩⟩, fun z => ⟨by omega, by omega, ih _ ⟨by omega, ?_⟩⟩⟩⟩
    · rw [ts]; unfold cntf; rw [tq, if_pos z, ey]
    · rw [ts]; unfold cntf; rw [tq, if_neg z, ey]

