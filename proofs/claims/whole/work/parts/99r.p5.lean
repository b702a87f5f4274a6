/-! ===== the public methods: softening, locks, rings ===== -/
theorem P_soften {G G' : ZG} {c m : Nat → Nat → Int} {rv : Nat → Nat → Option Nat} {B : Int} {x1 x2 : Int} (h : RL B c rv m) (hB : 0 ≤ B ∧ B ≤ 10000000) (hx1 : -2147483648 ≤ x1 ∧ x1 ≤ 2147483647) (hx2 : -2147483648 ≤ x2 ∧ x2 ≤ 2147483647) : Z G mX11_soften 40 0 0 0 [vr (some 0), vi x1, vi x2] [] (mkC c rv) (QC G' mX12_soften [vr (some 0), vi x1, vi x2, vu, vu] m (B + 1000)) := by
  obtain ⟨a0, a1, a2, a3, a4, a5, a6, a7, a8, a9, a10, a11, a12, a13⟩ := id h
  have hp : 0 ≤ x1 → x1 ≤ 1 → 0 ≤ m 7 x1.toNat ∧ m 7 x1.toNat ≤ 400 := fun p q => (sdR h ⟨p, q⟩).1.2.1
  have bad : ¬ ((0 ≤ x1 ∧ x1 ≤ 1) ∧ 0 ≤ x2 ∧ x2 ≤ 40) → QC G' mX12_soften [vr (some 0), vi x1, vi x2, vu, vu] m (B + 1000) (some (vi (-1))) (mkC (iu c 0 17 1) rv) := fun n => ⟨_, rv, rfl, M_soften hp (fun _ => QM_u h) (fun g => absurd g n)⟩
  apply sX11_soften_0 a0
  refine ⟨fun p => bad (by omega), fun p => ⟨fun q => ?_, fun q => bad (by omega)⟩⟩
  obtain ⟨d1, d2, d3⟩ := sdR h p
  have n4 := d1.1
  have n7 := d1.2.1
  have so := sdA_c x1
  have hs : x1 = 0 ∨ x1 = 1 := by omega
  refine ⟨by omega, by omega, by omega, _, rv, rfl, M_soften hp (fun n => absurd ⟨p, q⟩ n) (fun _ => QM_i ?_ ?_)⟩
  · rw [n4]
    refine cntf_congr _ (fun j j0 j1 => ?_)
    rw [lv_eq d1 j j0 (by omega)]
  have hc : ∀ i j, ¬ (i = 0 ∧ j = 17) ∧ ¬ (i = sdA x1 ∧ j = 6) ∧ i ≠ sdA x1 + 1 → iu (iu (imap c (sdA x1 + 1) 0 (c (sdA x1) 4).toNat (fun j => min x2 (c (sdA x1 + 1) j))) (sdA x1) 6 (c (sdA x1) 6 + 1)) 0 17 0 i j = c i j := fun i j q => by
    rw [iu_ap, if_neg (by omega), iu_ap, if_neg (by omega), imap_row (by omega)]
  have hm : ∀ i j, ¬ (i = 0 ∧ j = 0) ∧ i ≠ 8 → iu (imap m 8 (400 * x1).toNat (400 * x1 + m 7 x1.toNat).toNat (fun j => min x2 (m 8 j))) 0 0 0 i j = m i j := fun i j q => by
    rw [iu_ap, if_neg (by omega), imap_row (by omega)]
  have e6 : iu (iu (imap c (sdA x1 + 1) 0 (c (sdA x1) 4).toNat (fun j => min x2 (c (sdA x1 + 1) j))) (sdA x1) 6 (c (sdA x1) 6 + 1)) 0 17 0 (sdA x1) 6 = c (sdA x1) 6 + 1 := by rw [iu_o (by omega), iu_eq]
  have e1 : ∀ j, iu (iu (imap c (sdA x1 + 1) 0 (c (sdA x1) 4).toNat (fun j => min x2 (c (sdA x1 + 1) j))) (sdA x1) 6 (c (sdA x1) 6 + 1)) 0 17 0 (sdA x1 + 1) j = if 0 ≤ j ∧ j < (c (sdA x1) 4).toNat then min x2 (c (sdA x1 + 1) j) else c (sdA x1 + 1) j := fun j => by
    rw [iu_o (by omega), iu_o (by omega), imap_ap]
    by_cases g : 0 ≤ j ∧ j < (c (sdA x1) 4).toNat
    · rw [if_pos ⟨rfl, g⟩, if_pos g]
    · rw [if_neg (fun z => g z.2), if_neg g]
  have m8 : ∀ j, iu (imap m 8 (400 * x1).toNat (400 * x1 + m 7 x1.toNat).toNat (fun j => min x2 (m 8 j))) 0 0 0 8 j = if (400 * x1).toNat ≤ j ∧ j < (400 * x1 + m 7 x1.toNat).toNat then min x2 (m 8 j) else m 8 j := fun j => by
    rw [iu_o (by decide), imap_ap]
    by_cases g : (400 * x1).toNat ≤ j ∧ j < (400 * x1 + m 7 x1.toNat).toNat
    · rw [if_pos ⟨rfl, g⟩, if_pos g]
    · rw [if_neg (fun z => g z.2), if_neg g]
  have u0 : iu (iu (imap c (sdA x1 + 1) 0 (c (sdA x1) 4).toNat (fun j => min x2 (c (sdA x1 + 1) j))) (sdA x1) 6 (c (sdA x1) 6 + 1)) 0 17 0 0 17 = iu (imap m 8 (400 * x1).toNat (400 * x1 + m 7 x1.toNat).toNat (fun j => min x2 (m 8 j))) 0 0 0 0 0 := by rw [iu_eq, iu_eq]
  generalize iu (iu (imap c (sdA x1 + 1) 0 (c (sdA x1) 4).toNat (fun j => min x2 (c (sdA x1 + 1) j))) (sdA x1) 6 (c (sdA x1) 6 + 1)) 0 17 0 = c' at *
  generalize iu (imap m 8 (400 * x1).toNat (400 * x1 + m 7 x1.toNat).toNat (fun j => min x2 (m 8 j))) 0 0 0 = m' at *
  have c4 : c' (sdA x1) 4 = m 7 x1.toNat := by rw [hc _ _ (by omega)]; exact n4
  refine ⟨a0, ?_, RT_f a2 (fun i j q => hc i j (by omega)) (fun i j q => hm i j (by omega)), RS_f a3 (fun i j q => hc i j (by omega)) (fun i j q => hm i j (by omega)), ?_, RP_f a5 (fun i j q => hc i j (by omega)) (fun i j q => hm i j (by omega)), ?_, ?_, RO_f a8 (fun i j q => hc i j (by omega)), RK_f a9 (fun i j q => hc i j (by omega)) (fun i j q => hm i j (by omega)), RN_f a10 (fun i j q => hc i j (by omega)) (fun i j q => hm i j (by omega)), RF_f a11 (fun i j q => hc i j (by omega)) (fun i j q => hm i j (by omega)), RG_f a12 (fun i j q => hc i j (by omega)) (fun j q => hm _ _ (by omega)), RH_f a13 (fun i j q => hc i j (by omega)) (fun i j q => hm i j (by omega))⟩
  · exact u0
  · exact RR_B (RR_f a4 (fun j => hc _ _ (by omega)) (hm _ _ (by omega)) (hm _ _ (by omega))) (by omega)
  · refine RSd_u hs a6 (by omega) (fun i j q => hc i j (by omega)) (fun j n => ⟨hm _ _ (by omega), hm _ _ (by omega)⟩) (fun j n => ⟨by rw [m8, if_neg (by omega)], hm _ _ (by omega)⟩) (hm _ _ (by omega)) (fun j => hm _ _ (by omega)) ⟨⟨?_, ?_, ?_, ?_, fun k k0 k1 => ?_⟩, SK_n d2.1 (hc _ _ (by omega)) ?_, by omega⟩
    · rw [c4, hm 7 _ (by omega)]
    · rw [hm 7 _ (by omega)]; exact n7
    · rw [hc _ _ (by omega), hm 10 _ (by omega)]; exact d1.2.2.1
    · rw [hm 10 _ (by omega), hm 7 _ (by omega), hm 0 4 (by omega), hm 4 _ (by omega)]; exact d1.2.2.2.1
    · rw [hm 7 _ (by omega)] at k1
      have b := d1.2.2.2.2 k k0 k1
      rw [e1, m8, if_pos (by omega), if_pos (by omega), hc (sdA x1 + 2) _ (by omega), hm 9 _ (by omega), b.1.1]
      exact ⟨⟨rfl, b.1.2⟩, by omega⟩
    · rw [hc 14 2 (by omega)]; omega
  · exact RB_n a7.1 (hc _ _ (by omega)) (bNow_u hs (hc _ _ (by omega)) (by omega) (fun i q n => hc _ _ (by omega)))
theorem P_locked {G G' : ZG} {c m : Nat → Nat → Int} {rv : Nat → Nat → Option Nat} {B : Int} {x1 : Int} (h : RL B c rv m) (hB : 0 ≤ B ∧ B ≤ 10000000) (hx1 : -2147483648 ≤ x1 ∧ x1 ≤ 2147483647) : Z G mX11_locked 40 0 0 0 [vr (some 0), vi x1] [] (mkC c rv) (QC G' mX12_locked [vr (some 0), vi x1] m (B + 1000)) := by
  apply sX11_locked_0 h.1
  refine ⟨fun p => ⟨by omega, _, rv, rfl, ?_⟩, fun p => ⟨_, rv, rfl, sX12_locked_0 ⟨fun e => absurd e p, fun _ => QM_u h⟩⟩⟩
  rw [(sdR h p).1.2.2.1]
  refine sX12_locked_0 ⟨fun _ => ⟨by omega, fun n => ⟨by omega, ?_⟩, fun e => ?_⟩, fun n => absurd p n⟩
  · rw [if_neg n]; exact QM_u h
  · rw [if_pos e, e]; exact QM_u h
theorem P_lock {G G' : ZG} {c m : Nat → Nat → Int} {rv : Nat → Nat → Option Nat} {B : Int} {x1 x2 : Int} (h : RL B c rv m) (hB : 0 ≤ B ∧ B ≤ 10000000) (hx1 : -2147483648 ≤ x1 ∧ x1 ≤ 2147483647) (hx2 : -2147483648 ≤ x2 ∧ x2 ≤ 2147483647) : Z G mX11_lock 40 0 0 0 [vr (some 0), vi x1, vi x2] [] (mkC c rv) (QC G' mX12_lock [vr (some 0), vi x1, vi x2] m (B + 1000)) := by
  obtain ⟨a0, a1, a2, a3, a4, a5, a6, a7, a8, a9, a10, a11, a12, a13⟩ := id h
  have n10 := a3.1
  apply sX11_lock_0 a0
  rw [n10.1]
  have e12 : 0 ≤ x2 ∧ x2 < m 0 4 → c 12 x2.toNat = m 4 x2.toNat := fun q => (a3.2.1 x2 q.1 (by omega)).1.1
  have bad : ¬ ((0 ≤ x1 ∧ x1 ≤ 1) ∧ (0 ≤ x2 ∧ x2 < m 0 4) ∧ 8 ≤ m 4 x2.toNat) → QC G' mX12_lock [vr (some 0), vi x1, vi x2] m (B + 1000) (some (vi 0)) (mkC (iu c 0 17 1) rv) := fun n => ⟨_, rv, rfl, sX12_lock_0 ⟨fun _ => QM_u h, fun p => ⟨fun _ => QM_u h, fun q => ⟨by omega, fun e => absurd ⟨p, q, e⟩ n, fun _ => QM_u h⟩⟩⟩⟩
  refine ⟨fun p => bad (by omega), fun p => ⟨by omega, fun q => ?_, fun q => bad (fun z => q ⟨z.2.1.1, z.2.1.2, by rw [e12 z.2.1]; exact z.2.2⟩)⟩⟩
  have q' : (0 ≤ x2 ∧ x2 < m 0 4) ∧ 8 ≤ m 4 x2.toNat := ⟨⟨q.1, q.2.1⟩, by rw [← e12 ⟨q.1, q.2.1⟩]; exact q.2.2⟩
  obtain ⟨d1, d2, d3⟩ := sdR h p
  have n4 := d1.1
  have n7 := d1.2.1
  have n5 := d1.2.2.1
  have so := sdA_c x1
  have hs : x1 = 0 ∨ x1 = 1 := by omega
  have md : ∀ (y w : Int), (¬ m 7 x1.toNat = 0 → m 10 x1.toNat = -1 → QM (some (vi y)) (iu c 0 17 w) rv (B + 1000) (some (vi 1)) (mkM (iu (iu m 10 x1.toNat x2) 0 0 0))) → (¬ m 7 x1.toNat = 0 → ¬ m 10 x1.toNat = -1 → QM (some (vi y)) (iu c 0 17 w) rv (B + 1000) (some (vi 0)) (mkM (iu m 0 0 7))) → (m 7 x1.toNat = 0 → QM (some (vi y)) (iu c 0 17 w) rv (B + 1000) (some (vi 0)) (mkM (iu m 0 0 6))) → QC G' mX12_lock [vr (some 0), vi x1, vi x2] m (B + 1000) (some (vi y)) (mkC (iu c 0 17 w) rv) := fun y w k1 k7 k6 => ⟨_, rv, rfl, sX12_lock_0 ⟨fun n => absurd p n, fun _ => ⟨fun n => absurd q'.1 n, fun _ => ⟨by omega, fun _ => ⟨by omega, fun n => ⟨by omega, fun e => ⟨by omega, k1 n e⟩, fun e => k7 n e⟩, fun e => k6 e⟩, fun e => by omega⟩⟩⟩⟩
  refine ⟨by omega, fun n => ⟨by omega, fun e => ⟨by omega, _, rv, rfl, ?_⟩, fun e => ?_⟩, fun n => ?_⟩
  · refine sX12_lock_0 ⟨fun n => absurd p n, fun _ => ⟨fun n => absurd q'.1 n, fun _ => ⟨by omega, fun _ => ⟨by omega, fun n => ⟨by omega, fun e => ⟨by omega, QM_i rfl (RL_B (B := B) ?_ (by omega))⟩, fun e => by omega⟩, fun e => by omega⟩, fun e => by omega⟩⟩⟩
    have hc : ∀ i j, ¬ (i = 0 ∧ j = 17) ∧ ¬ (i = sdA x1 ∧ j = 5) → iu (iu c (sdA x1) 5 x2) 0 17 0 i j = c i j := fun i j q => by rw [iu_ap, if_neg (by omega), iu_ap, if_neg (by omega)]
    have hm : ∀ i j, ¬ (i = 0 ∧ j = 0) ∧ ¬ (i = 10 ∧ j = x1.toNat) → iu (iu m 10 x1.toNat x2) 0 0 0 i j = m i j := fun i j q => by rw [iu_ap, if_neg (by omega), iu_ap, if_neg (by omega)]
    have e5 : iu (iu c (sdA x1) 5 x2) 0 17 0 (sdA x1) 5 = x2 := by rw [iu_o (by omega), iu_eq]
    have m10 : iu (iu m 10 x1.toNat x2) 0 0 0 10 x1.toNat = x2 := by rw [iu_o (by decide), iu_eq]
    have u0 : iu (iu c (sdA x1) 5 x2) 0 17 0 0 17 = iu (iu m 10 x1.toNat x2) 0 0 0 0 0 := by rw [iu_eq, iu_eq]
    generalize iu (iu c (sdA x1) 5 x2) 0 17 0 = c' at *
    generalize iu (iu m 10 x1.toNat x2) 0 0 0 = m' at *
    refine ⟨a0, ?_, RT_f a2 (fun i j q => hc i j (by omega)) (fun i j q => hm i j (by omega)), RS_f a3 (fun i j q => hc i j (by omega)) (fun i j q => hm i j (by omega)), RR_f a4 (fun j => hc _ _ (by omega)) (hm _ _ (by omega)) (hm _ _ (by omega)), RP_f a5 (fun i j q => hc i j (by omega)) (fun i j q => hm i j (by omega)), ?_, RB_f a7 (fun i j q => hc i j (by omega)), RO_f a8 (fun i j q => hc i j (by omega)), RK_f a9 (fun i j q => hc i j (by omega)) (fun i j q => hm i j (by omega)), RN_f a10 (fun i j q => hc i j (by omega)) (fun i j q => hm i j (by omega)), RF_f a11 (fun i j q => hc i j (by omega)) (fun i j q => hm i j (by omega)), RG_f a12 (fun i j q => hc i j (by omega)) (fun j q => hm _ _ (by omega)), RH_f a13 (fun i j q => hc i j (by omega)) (fun i j q => hm i j (by omega))⟩
    · exact u0
    · refine RSd_u hs a6 (by omega) (fun i j q => hc i j (by omega)) (fun j n => ⟨hm _ _ (by omega), hm _ _ (by omega)⟩) (fun j n => ⟨hm _ _ (by omega), hm _ _ (by omega)⟩) (hm _ _ (by omega)) (fun j => hm _ _ (by omega)) ⟨⟨?_, ?_, ?_, Or.inr ?_, fun k k0 k1 => ?_⟩, SK_f d2 (fun i j q => hc i j (by omega)), ?_⟩
      · rw [hc _ _ (by omega), hm 7 _ (by omega)]; exact n4
      · rw [hm 7 _ (by omega)]; exact n7
      · rw [e5, m10]
      · rw [m10, hm 7 _ (by omega), hm 0 4 (by omega), hm 4 _ (by omega)]; exact ⟨by omega, q'.1.1, q'.1.2, q'.2⟩
      · rw [hm 7 _ (by omega)] at k1
        rw [hc _ _ (by omega), hc _ _ (by omega), hm 8 _ (by omega), hm 9 _ (by omega)]; exact d1.2.2.2.2 k k0 k1
      · rw [hc _ _ (by omega)]; exact d3
  · exact md 0 7 (fun _ y => by omega) (fun _ _ => QM_u h) (fun y => by omega)
  · exact md 0 6 (fun y _ => by omega) (fun y _ => by omega) (fun _ => QM_u h)
theorem ring_eq {B s x : Int} {v m w : Nat → Nat → Int} {rv : Nat → Nat → Option Nat} (r : RL B v rv m) (hs : 0 ≤ s ∧ s ≤ 1) (n0 : ¬ m 7 s.toNat = 0) (l : leastC v (sdA s)) (lm : leastM m w s) (hx : 0 ≤ x ∧ x < m 0 4) (h8 : 8 ≤ m 4 x.toNat) : ringC v (sdA s) x = ringM m w s x := by
  have d := (sdR r hs).1
  have n4 := d.1
  have n7 := d.2.1
  have pe := pl_eq r.2.2.2.2.1 d l lm
  unfold ringC ringM
  rw [if_neg n0, n4, r.2.2.2.2.1.1.1, pe _ (by omega) (by omega)]
  exact rgF_congr (fun k k0 k1 => pe k k0 k1) (fun k k0 k1 => lv_eq d k k0 (by omega)) (fun k k0 k1 => ((r.2.2.2.1.2.2 x hx.1 hx.2).2.2 k k0 (by omega)).1) 8 0 _ (by omega) (by omega)
theorem ring_r {B s x : Int} {v m : Nat → Nat → Int} {rv : Nat → Nat → Option Nat} (r : RL B v rv m) (hs : 0 ≤ s ∧ s ≤ 1) (n0 : ¬ m 7 s.toNat = 0) (pb : ∀ k : Int, 0 ≤ k → k < v (sdA s) 4 → 0 ≤ v (sdA s + 3) k.toNat ∧ v (sdA s + 3) k.toNat ≤ 8000) (hx : 0 ≤ x ∧ x < m 0 4) (h8 : 8 ≤ m 4 x.toNat) : 0 ≤ ringC v (sdA s) x ∧ ringC v (sdA s) x ≤ 10000 := by
  have d := (sdR r hs).1
  have n4 := d.1
  have n7 := d.2.1
  have rr := r.2.2.2.2.1
  unfold ringC
  refine rgF_r (fun k j k0 k1 j0 j1 => ?_) 8 0 _ (by omega) (by omega) (by have := pb (v (sdA s) 4 - 1) (by omega) (by omega); omega) (by have := pb (v (sdA s) 4 - 1) (by omega) (by omega); omega)
  have a := pb k k0 k1
  have b := d.2.2.2.2 k k0 (by omega)
  have e := (r.2.2.2.1.2.2 x hx.1 hx.2).2.2 j j0 (by omega)
  rw [b.1.1, e.1, rr.1.1]
  have := rr.2.1.1
  omega
theorem P_ring {G G' : ZG} {c m : Nat → Nat → Int} {rv : Nat → Nat → Option Nat} {B : Int} {x1 x2 : Int} (h : RL B c rv m) (hB : 0 ≤ B ∧ B ≤ 10000000) (hx1 : -2147483648 ≤ x1 ∧ x1 ≤ 2147483647) (hx2 : -2147483648 ≤ x2 ∧ x2 ≤ 2147483647) : Z G mX11_ring 40 0 0 0 [vr (some 0), vi x1, vi x2] [] (mkC c rv) (QC G' mX12_ring [vr (some 0), vi x1, vi x2] m (B + 1000)) := by
  obtain ⟨a0, a1, a2, a3, a4, a5, a6, a7, a8, a9, a10, a11, a12, a13⟩ := id h
  have n10 := a3.1
  apply sX11_ring_0 a0
  rw [n10.1]
  have e12 : 0 ≤ x2 ∧ x2 < m 0 4 → c 12 x2.toNat = m 4 x2.toNat := fun q => (a3.2.1 x2 q.1 (by omega)).1.1
  have bad : ¬ ((0 ≤ x1 ∧ x1 ≤ 1) ∧ (0 ≤ x2 ∧ x2 < m 0 4) ∧ 8 ≤ m 4 x2.toNat) → QC G' mX12_ring [vr (some 0), vi x1, vi x2] m (B + 1000) (some (vi (-1))) (mkC (iu c 0 17 1) rv) := fun n => ⟨_, rv, rfl, sX12_ring_0 ⟨fun _ => QM_u h, fun p => ⟨fun _ => QM_u h, fun q => ⟨by omega, fun e => absurd ⟨p, q, e⟩ n, fun _ => QM_u h⟩⟩⟩⟩
  refine ⟨fun p => bad (by omega), fun p => ⟨by omega, fun q => ?_, fun q => bad (fun z => q ⟨z.2.1.1, z.2.1.2, by rw [e12 z.2.1]; exact z.2.2⟩)⟩⟩
  have q' : (0 ≤ x2 ∧ x2 < m 0 4) ∧ 8 ≤ m 4 x2.toNat := ⟨⟨q.1, q.2.1⟩, by rw [← e12 ⟨q.1, q.2.1⟩]; exact q.2.2⟩
  refine ⟨by omega, okC h hB p, (sdR h p).2.1.2, fun v sv => ?_⟩
  obtain ⟨r, o, l⟩ := stl h hB p sv
  rw [nearR h p] at l ⊢
  have d := (sdR r p).1
  have n4 := d.1
  have n7 := d.2.1
  have s3 := r.2.2.2.1
  have v10 : v 10 3 = m 0 4 := s3.1.1
  have v12 : v 12 x2.toNat = m 4 x2.toNat := (s3.2.1 x2 q'.1.1 (by omega)).1.1
  have lv8 : ∀ k : Int, 0 ≤ k → k < 8 → v 11 (60 * x2 + k).toNat = m 6 (60 * x2 + k).toNat ∧ (0 ≤ m 6 (60 * x2 + k).toNat ∧ m 6 (60 * x2 + k).toNat ≤ 40) := fun k k0 k1 => (s3.2.2 x2 q'.1.1 q'.1.2).2.2 k k0 (by omega)
  rw [v10, v12]
  refine ⟨fun st => ⟨by omega, o, fun _ _ k k0 k1 => by have := (l st).2 k k0 k1; omega, by omega, fun k k0 k1 _ => by have := lv8 k k0 k1; omega, ?_⟩, fun st => ⟨_, rv, rfl, ?_⟩⟩
  · refine ⟨_, rv, rfl, sX12_ring_0 ⟨fun n => absurd p n, fun _ => ⟨fun n => absurd q'.1 n, fun _ => ⟨by omega, fun _ => ⟨okM h p, fun _ => ⟨by omega, fun n0 => ⟨okM h p, st, by omega, fun k k0 k1 => (lv8 k k0 k1).2, fun w hw => ?_⟩, fun z0 => ?_⟩, fun n => absurd st n⟩, fun n => by omega⟩⟩⟩⟩
    · have rr := ring_r r p n0 (l st).2 q'.1 q'.2
      rw [if_neg (c := v (sdA x1) 4 = 0 ∨ _) (by omega), if_neg (by omega), ring_eq r p n0 (l st).1 hw.2 q'.1 q'.2]
      exact QM_v r (scr_mS hw.1)
    · rw [if_pos (c := v (sdA x1) 4 = 0 ∨ _) (by omega), if_pos rfl]
      exact QM_u r
  · exact sX12_ring_0 ⟨fun n => absurd p n, fun _ => ⟨fun n => absurd q'.1 n, fun _ => ⟨by omega, fun _ => ⟨okM h p, fun e => absurd e st, fun _ => QM_u r⟩, fun n => by omega⟩⟩⟩

