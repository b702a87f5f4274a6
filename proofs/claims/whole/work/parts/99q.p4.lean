/-! ===== the public methods: sides ===== -/
theorem RL_uv {B x : Int} {v m w : Nat → Nat → Int} {rv : Nat → Nat → Option Nat} (h : RL B v rv m) (hw : ∀ i j, ¬ mS i j → w i j = m i j) : RL (B + 1000) (iu v 0 17 x) rv (iu w 0 0 x) := RL_B (RL_f h (fun i j q => by unfold cS at q; rw [iu_ap, if_neg (by omega)]) (fun i j q => by have := hw i j q; unfold mS at q; rw [iu_ap, if_neg (by omega)]; exact this) (by rw [iu_eq, iu_eq])) (by omega)
theorem QM_v {B x y : Int} {v m w : Nat → Nat → Int} {rv : Nat → Nat → Option Nat} (h : RL B v rv m) (hw : ∀ i j, ¬ mS i j → w i j = m i j) : QM (some (vi y)) (iu v 0 17 x) rv (B + 1000) (some (vi y)) (mkM (iu w 0 0 x)) := ⟨rfl, _, rfl, RL_uv h hw⟩
theorem scr_mS {m w : Nat → Nat → Int} (h : ∀ i j, i ≠ 15 → ¬ (i = 0 ∧ j = 20) → w i j = m i j) : ∀ i j, ¬ mS i j → w i j = m i j := fun i j q => by unfold mS at q; exact h i j (by omega) (by omega)
theorem P_anew {G G' : ZG} {c m : Nat → Nat → Int} {rv : Nat → Nat → Option Nat} {B : Int} {x1 : Int} (h : RL B c rv m) (hB : 0 ≤ B ∧ B ≤ 10000000) (hx1 : -2147483648 ≤ x1 ∧ x1 ≤ 2147483647) : Z G mX11_anew 40 0 0 0 [vr (some 0), vi x1] [] (mkC c rv) (QC G' mX12_anew [vr (some 0), vi x1] m (B + 1000)) := by
  obtain ⟨a0, a1, a2, a3, a4, a5, a6, a7, a8, a9, a10, a11, a12, a13⟩ := id h
  apply sX11_anew_0 a0
  refine ⟨fun p => ⟨by omega, by have := sdR h p; omega, _, rv, rfl, ?_⟩, fun p => ⟨_, rv, rfl, sX12_anew_0 ⟨fun e => absurd e p, fun _ => QM_u h⟩⟩⟩
  apply sX12_anew_0
  refine ⟨fun _ => ⟨p, QM_i rfl ?_⟩, fun e => absurd p e⟩
  have hs : x1 = 0 ∨ x1 = 1 := by omega
  have so := sdA_c x1
  obtain ⟨d1, d2, d3⟩ := sdR h p
  have hc : ∀ i j, ¬ (i = 0 ∧ j = 17) ∧ ¬ (i = sdA x1 ∧ (j = 4 ∨ j = 5 ∨ j = 6)) → iu (iu (iu (iu c (sdA x1) 4 0) (sdA x1) 5 (-1)) (sdA x1) 6 (c (sdA x1) 6 + 1)) 0 17 0 i j = c i j := fun i j q => by rw [iu_ap, if_neg (by omega), iu_ap, if_neg (by omega), iu_ap, if_neg (by omega), iu_ap, if_neg (by omega)]
  have hm : ∀ i j, ¬ (i = 0 ∧ j = 0) ∧ i ≠ 7 ∧ i ≠ 10 → iu (iu (iu m 7 x1.toNat 0) 10 x1.toNat (-1)) 0 0 0 i j = m i j := fun i j q => by rw [iu_ap, if_neg (by omega), iu_o (by omega), iu_o (by omega)]
  have e4 : iu (iu (iu (iu c (sdA x1) 4 0) (sdA x1) 5 (-1)) (sdA x1) 6 (c (sdA x1) 6 + 1)) 0 17 0 (sdA x1) 4 = 0 := by rw [iu_o (by omega), iu_k (by decide), iu_k (by decide), iu_eq]
  have e5 : iu (iu (iu (iu c (sdA x1) 4 0) (sdA x1) 5 (-1)) (sdA x1) 6 (c (sdA x1) 6 + 1)) 0 17 0 (sdA x1) 5 = -1 := by rw [iu_o (by omega), iu_k (by decide), iu_eq]
  have e6 : iu (iu (iu (iu c (sdA x1) 4 0) (sdA x1) 5 (-1)) (sdA x1) 6 (c (sdA x1) 6 + 1)) 0 17 0 (sdA x1) 6 = c (sdA x1) 6 + 1 := by rw [iu_o (by omega), iu_eq]
  have m7 : iu (iu (iu m 7 x1.toNat 0) 10 x1.toNat (-1)) 0 0 0 7 x1.toNat = 0 := by rw [iu_o (by decide), iu_o (by decide), iu_eq]
  have m10 : iu (iu (iu m 7 x1.toNat 0) 10 x1.toNat (-1)) 0 0 0 10 x1.toNat = -1 := by rw [iu_o (by decide), iu_eq]
  have m7o : ∀ j, j ≠ x1.toNat → iu (iu (iu m 7 x1.toNat 0) 10 x1.toNat (-1)) 0 0 0 7 j = m 7 j ∧ iu (iu (iu m 7 x1.toNat 0) 10 x1.toNat (-1)) 0 0 0 10 j = m 10 j := fun j n => by rw [iu_o (by decide), iu_k n, iu_k n, iu_o (by decide), iu_k n, iu_k n]; exact ⟨rfl, rfl⟩
  have u0 : iu (iu (iu (iu c (sdA x1) 4 0) (sdA x1) 5 (-1)) (sdA x1) 6 (c (sdA x1) 6 + 1)) 0 17 0 0 17 = iu (iu (iu m 7 x1.toNat 0) 10 x1.toNat (-1)) 0 0 0 0 0 := by rw [iu_eq, iu_eq]
  generalize iu (iu (iu (iu c (sdA x1) 4 0) (sdA x1) 5 (-1)) (sdA x1) 6 (c (sdA x1) 6 + 1)) 0 17 0 = c' at *
  generalize iu (iu (iu m 7 x1.toNat 0) 10 x1.toNat (-1)) 0 0 0 = m' at *
  refine ⟨a0, ?_, RT_f a2 (fun i j q => hc i j (by omega)) (fun i j q => hm i j (by omega)), RS_f a3 (fun i j q => hc i j (by omega)) (fun i j q => hm i j (by omega)), ?_, RP_f a5 (fun i j q => hc i j (by omega)) (fun i j q => hm i j (by omega)), ?_, ?_, RO_f a8 (fun i j q => hc i j (by omega)), RK_f a9 (fun i j q => hc i j (by omega)) (fun i j q => hm i j (by omega)), RN_f a10 (fun i j q => hc i j (by omega)) (fun i j q => hm i j (by omega)), RF_f a11 (fun i j q => hc i j (by omega)) (fun i j q => hm i j (by omega)), RG_f a12 (fun i j q => hc i j (by omega)) (fun j q => hm _ _ (by omega)), RH_f a13 (fun i j q => hc i j (by omega)) (fun i j q => hm i j (by omega))⟩
  · exact u0
  · exact RR_B (RR_f a4 (fun j => hc _ _ (by omega)) (hm _ _ (by omega)) (hm _ _ (by omega))) (by omega)
  · refine RSd_u hs a6 (by omega) (fun i j q => hc i j (by omega)) m7o (fun j _ => ⟨hm _ _ (by omega), hm _ _ (by omega)⟩) (hm _ _ (by omega)) (fun j => hm _ _ (by omega)) ⟨⟨by omega, by omega, by omega, Or.inl m10, fun k k0 k1 => by omega⟩, SK_n d2.1 (hc _ _ (by omega)) ?_, by omega⟩
    rw [hc 14 2 (by omega)]; omega
  · exact RB_n a7.1 (hc _ _ (by omega)) (bNow_u hs (hc _ _ (by omega)) (by omega) (fun i q n => hc _ _ (by omega)))
/-- parts laid on a side, by a call -/
theorem RL_lay {B s k w : Int} {c m : Nat → Nat → Int} {rv : Nat → Nat → Option Nat} {fc fm : Nat → Int} (h : RL B c rv m) (hs : 0 ≤ s ∧ s ≤ 1) (hk : 1 ≤ k ∧ m 7 s.toNat + k ≤ 400) (hl : m 10 s.toNat = -1) (hf : ∀ j : Int, m 7 s.toNat ≤ j → j < m 7 s.toNat + k → fc j.toNat = fm (400 * s + j).toNat ∧ (0 ≤ fm (400 * s + j).toNat ∧ fm (400 * s + j).toNat ≤ 40)) : RL (B + 1000) (iu (layC c (sdA s) (m 7 s.toNat) k fc w (c (sdA s) 6)) 0 17 0) rv (iu (layM m s (m 7 s.toNat) k fm w) 0 0 0) := by
  obtain ⟨a0, a1, a2, a3, a4, a5, a6, a7, a8, a9, a10, a11, a12, a13⟩ := id h
  have hs' : s = 0 ∨ s = 1 := by omega
  have so := sdA_c s
  obtain ⟨d1, d2, d3⟩ := sdR h hs
  have n7 := d1.2.1
  have hc : ∀ i j, ¬ (i = 0 ∧ j = 17) ∧ ¬ (i = sdA s ∧ (j = 4 ∨ j = 6)) ∧ i ≠ sdA s + 1 ∧ i ≠ sdA s + 2 → iu (layC c (sdA s) (m 7 s.toNat) k fc w (c (sdA s) 6)) 0 17 0 i j = c i j := fun i j q => by
    rw [iu_ap, if_neg (by omega)]
    by_cases g : i = sdA s
    · subst g; exact layC_j (by omega) (by omega)
    · rw [layC_o g (by omega) (by omega)]
  have hm : ∀ i j, ¬ (i = 0 ∧ j = 0) ∧ i ≠ 7 ∧ i ≠ 8 ∧ i ≠ 9 → iu (layM m s (m 7 s.toNat) k fm w) 0 0 0 i j = m i j := fun i j q => by rw [iu_ap, if_neg (by omega), layM_o (by omega) (by omega) (by omega)]
  have e6 : iu (layC c (sdA s) (m 7 s.toNat) k fc w (c (sdA s) 6)) 0 17 0 (sdA s) 6 = c (sdA s) 6 + k := by rw [iu_o (by omega), layC_6]
  have rd := RD_lay (k := k) (w := w) (x := c (sdA s) 6) hs' d1 (by omega) hl hf
  have rd' : RD (iu (layC c (sdA s) (m 7 s.toNat) k fc w (c (sdA s) 6)) 0 17 0) (iu (layM m s (m 7 s.toNat) k fm w) 0 0 0) s := RD_f rd (fun i j q => iu_o (by omega)) (iu_o (by decide)) (iu_o (by decide)) (fun q _ _ => ⟨iu_o (by decide), iu_o (by decide)⟩) (iu_k (by decide)) (fun q _ _ => iu_o (by decide))
  have m7o : ∀ j, j ≠ s.toNat → iu (layM m s (m 7 s.toNat) k fm w) 0 0 0 7 j = m 7 j := fun j n => by rw [iu_o (by decide), layM_7o n]
  have m89 : ∀ j : Nat, (j < (400 * s).toNat ∨ (400 * s + 400).toNat ≤ j) → iu (layM m s (m 7 s.toNat) k fm w) 0 0 0 8 j = m 8 j ∧ iu (layM m s (m 7 s.toNat) k fm w) 0 0 0 9 j = m 9 j := fun j n => by
    rw [iu_o (by decide), iu_o (by decide), layM_8, layM_9, if_neg (by omega), if_neg (by omega)]; exact ⟨rfl, rfl⟩
  have u0 : iu (layC c (sdA s) (m 7 s.toNat) k fc w (c (sdA s) 6)) 0 17 0 0 17 = iu (layM m s (m 7 s.toNat) k fm w) 0 0 0 0 0 := by rw [iu_eq, iu_eq]
  clear rd
  generalize iu (layC c (sdA s) (m 7 s.toNat) k fc w (c (sdA s) 6)) 0 17 0 = c' at *
  generalize iu (layM m s (m 7 s.toNat) k fm w) 0 0 0 = m' at *
  refine ⟨a0, ?_, RT_f a2 (fun i j q => hc i j (by omega)) (fun i j q => hm i j (by omega)), RS_f a3 (fun i j q => hc i j (by omega)) (fun i j q => hm i j (by omega)), ?_, RP_f a5 (fun i j q => hc i j (by omega)) (fun i j q => hm i j (by omega)), ?_, ?_, RO_f a8 (fun i j q => hc i j (by omega)), RK_f a9 (fun i j q => hc i j (by omega)) (fun i j q => hm i j (by omega)), RN_f a10 (fun i j q => hc i j (by omega)) (fun i j q => hm i j (by omega)), RF_f a11 (fun i j q => hc i j (by omega)) (fun i j q => hm i j (by omega)), RG_f a12 (fun i j q => hc i j (by omega)) (fun j q => hm _ _ (by omega)), RH_f a13 (fun i j q => hc i j (by omega)) (fun i j q => hm i j (by omega))⟩
  · exact u0
  · exact RR_B (RR_f a4 (fun j => hc _ _ (by omega)) (hm _ _ (by omega)) (hm _ _ (by omega))) (by omega)
  · refine RSd_u hs' a6 (by omega) (fun i j q => hc i j (by omega)) (fun j n => ⟨m7o j n, hm _ _ (by omega)⟩) m89 (hm _ _ (by omega)) (fun j => hm _ _ (by omega)) ⟨rd', SK_n d2.1 (hc _ _ (by omega)) ?_, by omega⟩
    rw [hc 14 2 (by omega)]; omega
  · exact RB_n a7.1 (hc _ _ (by omega)) (bNow_u hs' (hc _ _ (by omega)) (by omega) (fun i q n => hc _ _ (by omega)))
theorem P_lead {G G' : ZG} {c m : Nat → Nat → Int} {rv : Nat → Nat → Option Nat} {B : Int} {x1 x2 : Int} (h : RL B c rv m) (hB : 0 ≤ B ∧ B ≤ 10000000) (hx1 : -2147483648 ≤ x1 ∧ x1 ≤ 2147483647) (hx2 : -2147483648 ≤ x2 ∧ x2 ≤ 2147483647) : Z G mX11_lead 40 0 0 0 [vr (some 0), vi x1, vi x2, vu] [] (mkC c rv) (QC G' mX12_lead [vr (some 0), vi x1, vi x2, vu] m (B + 1000)) := by
  obtain ⟨a0, a1, a2, a3, a4, a5, a6, a7, a8, a9, a10, a11, a12, a13⟩ := id h
  have hp : 0 ≤ x1 → x1 ≤ 1 → 0 ≤ m 7 x1.toNat ∧ m 7 x1.toNat ≤ 400 := fun p q => (sdR h ⟨p, q⟩).1.2.1
  have bad : ¬ ((0 ≤ x1 ∧ x1 ≤ 1) ∧ 1 ≤ x2 ∧ x2 ≤ 100) → QC G' mX12_lead [vr (some 0), vi x1, vi x2, vu] m (B + 1000) (some (vi 0)) (mkC (iu c 0 17 1) rv) := fun n => ⟨_, rv, rfl, M_lead hp (fun _ => QM_u h) (fun g => absurd g n) (fun g => absurd g n) (fun g => absurd g n)⟩
  apply sX11_lead_0 a0
  refine ⟨fun p => bad (by omega), fun p => ⟨fun q => ?_, fun q => bad (by omega)⟩⟩
  obtain ⟨d1, d2, d3⟩ := sdR h p
  have n4 := d1.1
  have n7 := d1.2.1
  have n5 := d1.2.2.1
  refine ⟨by omega, by omega, fun w => ⟨by omega, ?_, by omega, _, rv, rfl, ?_⟩, fun w => ⟨_, rv, rfl, ?_⟩⟩
  all_goals unfold layWhy at w
  · split at w <;> omega
  · have w1 : m 7 x1.toNat + x2 ≤ 400 ∧ m 10 x1.toNat = -1 := by
      split at w
      · split at w <;> omega
      · omega
    refine M_lead hp (fun n => absurd ⟨p, q⟩ n) (fun _ n => by omega) (fun _ _ n => by omega) (fun _ _ _ => QM_i rfl ?_)
    rw [n4]
    exact RL_lay h p (by omega) w1.2 (fun j _ _ => ⟨rfl, by decide, by decide⟩)
  · refine M_lead hp (fun n => absurd ⟨p, q⟩ n) (fun _ g => ?_) (fun _ g1 g2 => ?_) (fun _ g1 g2 => ?_)
    · unfold layWhy; rw [if_neg (by omega)]; exact QM_u h
    · unfold layWhy; rw [if_pos (by omega), if_neg (by omega)]; exact QM_u h
    · rw [if_pos (by omega), if_pos (by omega)] at w; omega
theorem P_lay {G G' : ZG} {c m : Nat → Nat → Int} {rv : Nat → Nat → Option Nat} {B : Int} {x1 x2 : Int} (h : RL B c rv m) (hB : 0 ≤ B ∧ B ≤ 10000000) (hx1 : -2147483648 ≤ x1 ∧ x1 ≤ 2147483647) (hx2 : -2147483648 ≤ x2 ∧ x2 ≤ 2147483647) : Z G mX11_lay 40 0 0 0 [vr (some 0), vi x1, vi x2, vu] [] (mkC c rv) (QC G' mX12_lay [vr (some 0), vi x1, vi x2, vu] m (B + 1000)) := by
  obtain ⟨a0, a1, a2, a3, a4, a5, a6, a7, a8, a9, a10, a11, a12, a13⟩ := id h
  have n10 := a3.1
  have hp : 0 ≤ x1 → x1 ≤ 1 → 0 ≤ m 7 x1.toNat ∧ m 7 x1.toNat ≤ 400 := fun p q => (sdR h ⟨p, q⟩).1.2.1
  have hl : 0 ≤ x2 → x2 < m 0 4 → 1 ≤ m 4 x2.toNat ∧ m 4 x2.toNat ≤ 60 := fun p q => ⟨(a3.2.2 x2 p q).1, (a3.2.1 x2 p (by omega)).2.2⟩
  have bad : ¬ ((0 ≤ x1 ∧ x1 ≤ 1) ∧ 0 ≤ x2 ∧ x2 < m 0 4) → QC G' mX12_lay [vr (some 0), vi x1, vi x2, vu] m (B + 1000) (some (vi 0)) (mkC (iu c 0 17 1) rv) := fun n => ⟨_, rv, rfl, M_lay hp n10.2 hl (fun _ => QM_u h) (fun g => absurd g n) (fun g => absurd g n) (fun g => absurd g n)⟩
  apply sX11_lay_0 a0
  rw [n10.1]
  refine ⟨fun p => bad (by omega), fun p => ⟨by omega, fun q => ?_, fun q => bad (by omega)⟩⟩
  obtain ⟨d1, d2, d3⟩ := sdR h p
  have n4 := d1.1
  have n7 := d1.2.1
  have n5 := d1.2.2.1
  have l := hl q.1 q.2
  have e12 := (a3.2.1 x2 q.1 (by omega)).1.1
  rw [e12]
  refine ⟨by omega, by omega, by omega, fun w => ⟨by omega, by omega, by omega, ?_, by omega, _, rv, rfl, ?_⟩, fun w => ⟨_, rv, rfl, ?_⟩⟩
  all_goals unfold layWhy at w
  · split at w <;> omega
  · have w1 : m 7 x1.toNat + m 4 x2.toNat ≤ 400 ∧ m 10 x1.toNat = -1 := by
      split at w
      · split at w <;> omega
      · omega
    refine M_lay hp n10.2 hl (fun n => absurd ⟨p, q⟩ n) (fun _ n => by omega) (fun _ _ n => by omega) (fun _ _ _ => QM_i rfl ?_)
    rw [n4]
    refine RL_lay h p (by omega) w1.2 (fun j j0 j1 => ?_)
    have i1 : ((j.toNat : Nat) : Int) - m 7 x1.toNat = j - m 7 x1.toNat := by omega
    have i2 : (((400 * x1 + j).toNat : Nat) : Int) - (400 * x1 + m 7 x1.toNat) = j - m 7 x1.toNat := by omega
    rw [i1, i2]
    exact (a3.2.2 x2 q.1 q.2).2.2 (j - m 7 x1.toNat) (by omega) (by omega)
  · refine M_lay hp n10.2 hl (fun n => absurd ⟨p, q⟩ n) (fun _ g => ?_) (fun _ g1 g2 => ?_) (fun _ g1 g2 => ?_)
    · unfold layWhy; rw [if_neg (by omega)]; exact QM_u h
    · unfold layWhy; rw [if_pos (by omega), if_neg (by omega)]; exact QM_u h
    · rw [if_pos (by omega), if_pos (by omega)] at w; omega
theorem P_parts {G G' : ZG} {c m : Nat → Nat → Int} {rv : Nat → Nat → Option Nat} {B : Int} {x1 : Int} (h : RL B c rv m) (hB : 0 ≤ B ∧ B ≤ 10000000) (hx1 : -2147483648 ≤ x1 ∧ x1 ≤ 2147483647) : Z G mX11_parts 40 0 0 0 [vr (some 0), vi x1] [] (mkC c rv) (QC G' mX12_parts [vr (some 0), vi x1] m (B + 1000)) := by
  apply sX11_parts_0 h.1
  refine ⟨fun p => ⟨by omega, _, rv, rfl, ?_⟩, fun p => ⟨_, rv, rfl, ?_⟩⟩
  · rw [(sdR h p).1.1]
    exact sX12_parts_0 ⟨fun n => absurd p n, fun _ => ⟨by omega, QM_u h⟩⟩
  · exact sX12_parts_0 ⟨fun _ => QM_u h, fun e => absurd e p⟩
theorem P_level {G G' : ZG} {c m : Nat → Nat → Int} {rv : Nat → Nat → Option Nat} {B : Int} {x1 x2 : Int} (h : RL B c rv m) (hB : 0 ≤ B ∧ B ≤ 10000000) (hx1 : -2147483648 ≤ x1 ∧ x1 ≤ 2147483647) (hx2 : -2147483648 ≤ x2 ∧ x2 ≤ 2147483647) : Z G mX11_level 40 0 0 0 [vr (some 0), vi x1, vi x2] [] (mkC c rv) (QC G' mX12_level [vr (some 0), vi x1, vi x2] m (B + 1000)) := by
  apply sX11_level_0 h.1
  refine ⟨fun p q => by have a := (sdR h ⟨p, q⟩).1; have := a.2.1; have := a.1; omega, fun p => ?_, fun p => ⟨_, rv, rfl, ?_⟩⟩
  · have d := (sdR h p.1).1
    have n4 := d.1
    have n7 := d.2.1
    refine ⟨by omega, by omega, _, rv, rfl, ?_⟩
    rw [(d.2.2.2.2 x2 (by omega) (by omega)).1.1]
    exact sX12_level_0 ⟨fun n => absurd ⟨p.1, by omega⟩ n, fun _ => ⟨by omega, by omega, QM_u h⟩⟩
  · refine sX12_level_0 ⟨fun _ => QM_u h, fun e => absurd ?_ p⟩
    have d := (sdR h e.1).1
    exact ⟨e.1, by have := d.1; omega⟩
/-- behind settle -/
theorem stl {B s : Int} {c v m : Nat → Nat → Int} {rv : Nat → Nat → Option Nat} (h : RL B c rv m) (hB : 0 ≤ B ∧ B ≤ 10000000) (hs : 0 ≤ s ∧ s ≤ 1) (q : SdF c v (sdA s) ∧ v (sdA s) 7 = c (sdA s) 6 + c 14 2 ∧ v (sdA s) 8 = b01 (nearC c (sdA s) 40 = -1) ∧ (nearC c (sdA s) 40 = -1 → leastC v (sdA s))) : RL B v rv m ∧ okSd v (sdA s) ∧ (nearC c (sdA s) 40 = -1 → leastC v (sdA s) ∧ ∀ k : Int, 0 ≤ k → k < v (sdA s) 4 → 0 ≤ v (sdA s + 3) k.toNat ∧ v (sdA s + 3) k.toNat ≤ 8000) := by
  have r := RL_st h (s := s) (by omega) (Or.inr q)
  have o := okC r hB hs
  refine ⟨r, o, fun n => ⟨q.2.2.2 n, leastC_ub o ?_ (q.2.2.2 n)⟩⟩
  rw [nearR r hs, ← nearR h hs]; exact n
theorem P_place {G G' : ZG} {c m : Nat → Nat → Int} {rv : Nat → Nat → Option Nat} {B : Int} {x1 x2 : Int} (h : RL B c rv m) (hB : 0 ≤ B ∧ B ≤ 10000000) (hx1 : -2147483648 ≤ x1 ∧ x1 ≤ 2147483647) (hx2 : -2147483648 ≤ x2 ∧ x2 ≤ 2147483647) : Z G mX11_place 40 0 0 0 [vr (some 0), vi x1, vi x2] [] (mkC c rv) (QC G' mX12_place [vr (some 0), vi x1, vi x2] m (B + 1000)) := by
  obtain ⟨a0, a1, a2, a3, a4, a5, a6, a7, a8, a9, a10, a11, a12, a13⟩ := id h
  apply sX11_place_0 a0
  refine ⟨fun p q => by have a := (sdR h ⟨p, q⟩).1; have := a.2.1; have := a.1; omega, fun p => ⟨by omega, okC h hB p.1, (sdR h p.1).2.1.2, fun v q => ?_⟩, fun p => ⟨_, rv, rfl, ?_⟩⟩
  · obtain ⟨r, o, l⟩ := stl h hB p.1 q
    have d := (sdR h p.1).1
    have n4 := d.1
    have n7 := d.2.1
    rw [nearR h p.1] at l ⊢
    refine ⟨fun st => ⟨by omega, by omega, _, rv, rfl, ?_⟩, fun st => ⟨_, rv, rfl, ?_⟩⟩
    · refine sX12_place_0 ⟨fun _ => ⟨okM h p.1, fun _ => ⟨okM h p.1, st, fun w hw => ⟨by omega, by omega, ?_⟩⟩, fun e => absurd st e⟩, fun n => absurd ⟨p.1, by omega⟩ n⟩
      rw [pl_eq r.2.2.2.2.1 (sdR r p.1).1 (l st).1 hw.2 x2 (by omega) (by omega)]
      exact QM_v r (scr_mS hw.1)
    · exact sX12_place_0 ⟨fun _ => ⟨okM h p.1, fun e => absurd e st, fun _ => QM_u r⟩, fun n => absurd ⟨p.1, by omega⟩ n⟩
  · refine sX12_place_0 ⟨fun e => absurd ?_ p, fun _ => QM_u h⟩
    have d := (sdR h e.1).1
    exact ⟨e.1, by have := d.1; omega⟩
theorem P_room {G G' : ZG} {c m : Nat → Nat → Int} {rv : Nat → Nat → Option Nat} {B : Int} {x1 : Int} (h : RL B c rv m) (hB : 0 ≤ B ∧ B ≤ 10000000) (hx1 : -2147483648 ≤ x1 ∧ x1 ≤ 2147483647) : Z G mX11_room 40 0 0 0 [vr (some 0), vi x1] [] (mkC c rv) (QC G' mX12_room [vr (some 0), vi x1] m (B + 1000)) := by
  apply sX11_room_0 h.1
  refine ⟨fun p => ⟨by omega, okC h hB p, (sdR h p).2.1.2, fun v q => ?_⟩, fun p => ⟨_, rv, rfl, ?_⟩⟩
  · obtain ⟨r, o, l⟩ := stl h hB p q
    rw [nearR h p] at l ⊢
    refine ⟨fun st => ⟨by omega, o, fun k k0 k1 => by have := (l st).2 k k0 k1; omega, _, rv, rfl, ?_⟩, fun st => ⟨_, rv, rfl, ?_⟩⟩
    · refine sX12_room_0 ⟨fun _ => ⟨okM h p, fun _ => ⟨okM h p, st, fun w y hw => ?_⟩, fun e => absurd st e⟩, fun n => absurd p n⟩
      rw [room_eq r.2.2.2.2.1 (sdR r p).1 (l st).1 hw.2.1]
      exact QM_v r (scr_mS hw.1)
    · exact sX12_room_0 ⟨fun _ => ⟨okM h p, fun e => absurd e st, fun _ => QM_u r⟩, fun n => absurd p n⟩
  · exact sX12_room_0 ⟨fun e => absurd e p, fun _ => QM_u h⟩
theorem P_tight {G G' : ZG} {c m : Nat → Nat → Int} {rv : Nat → Nat → Option Nat} {B : Int} {x1 x2 : Int} (h : RL B c rv m) (hB : 0 ≤ B ∧ B ≤ 10000000) (hx1 : -2147483648 ≤ x1 ∧ x1 ≤ 2147483647) (hx2 : -2147483648 ≤ x2 ∧ x2 ≤ 2147483647) : Z G mX11_tight 40 0 0 0 [vr (some 0), vi x1, vi x2] [] (mkC c rv) (QC G' mX12_tight [vr (some 0), vi x1, vi x2, vu, vu] m (B + 1000)) := by
  apply sX11_tight_0 h.1
  have ok : 0 ≤ x1 → x1 ≤ 1 → okSide m x1 := fun p q => okM h ⟨p, q⟩
  refine ⟨fun p => ⟨by omega, okC h hB p, (sdR h p).2.1.2, fun v q => ?_⟩, fun p => ⟨_, rv, rfl, ?_⟩⟩
  · obtain ⟨r, o, l⟩ := stl h hB p q
    rw [nearR h p] at l ⊢
    have d := (sdR r p).1
    have n4 := d.1
    have n7 := d.2.1
    refine ⟨fun st => ⟨by omega, o, fun k k0 k1 => by have := (l st).2 k k0 k1; omega, _, rv, rfl, ?_⟩, fun st => ⟨_, rv, rfl, ?_⟩⟩
    · refine M_tight hx2.2 ok (fun n => absurd p n) (fun _ e => absurd st e) (fun _ _ w f lm => ?_)
      have pe := pl_eq r.2.2.2.2.1 d (l st).1 lm
      have e : tightC v (sdA x1) x2 = nthf (fun k => w 15 (400 * x1 + k).toNat = w 15 (400 * x1 + (k - 8)).toNat + m 8 (400 * x1 + k).toNat + m 8 (400 * x1 + (k - 8)).toNat + m 0 5) x2 8 (m 7 x1.toNat - 8).toNat := by
        unfold tightC
        rw [n4]
        refine nthf_congr _ _ _ (fun k k0 k1 => ?_)
        rw [pe k (by omega) (by omega), pe (k - 8) (by omega) (by omega), lv_eq d k (by omega) (by omega), lv_eq d (k - 8) (by omega) (by omega), r.2.2.2.2.1.1.1]
        omega
      rw [e]
      exact QM_v r (scr_mS f)
    · exact M_tight hx2.2 ok (fun n => absurd p n) (fun _ _ => QM_u r) (fun _ e => absurd e st)
  · exact M_tight hx2.2 ok (fun _ => QM_u h) (fun e => absurd e p) (fun e => absurd e p)
theorem P_cannot {G G' : ZG} {c m : Nat → Nat → Int} {rv : Nat → Nat → Option Nat} {B : Int} {x1 : Int} (h : RL B c rv m) (hB : 0 ≤ B ∧ B ≤ 10000000) (hx1 : -2147483648 ≤ x1 ∧ x1 ≤ 2147483647) : Z G mX11_cannot 40 0 0 0 [vr (some 0), vi x1] [] (mkC c rv) (QC G' mX12_cannot [vr (some 0), vi x1, vu] m (B + 1000)) := by
  apply sX11_cannot_0 h.1
  refine ⟨fun p => ⟨by omega, okC h hB p, by decide, _, rv, rfl, ?_⟩, fun p => ⟨_, rv, rfl, ?_⟩⟩
  · rw [nearR h p]
    refine sX12_cannot_0 ⟨fun _ => ⟨okM h p, fun n => ?_, fun e => ?_⟩, fun n => absurd p n⟩
    · rw [if_neg n]; exact QM_u h
    · rw [if_pos e, e]; exact QM_u h
  · exact sX12_cannot_0 ⟨fun e => absurd e p, fun _ => QM_u h⟩
theorem P_softer {G G' : ZG} {c m : Nat → Nat → Int} {rv : Nat → Nat → Option Nat} {B : Int} {x1 : Int} (h : RL B c rv m) (hB : 0 ≤ B ∧ B ≤ 10000000) (hx1 : -2147483648 ≤ x1 ∧ x1 ≤ 2147483647) : Z G mX11_softer 40 0 0 0 [vr (some 0), vi x1] [] (mkC c rv) (QC G' mX12_softer [vr (some 0), vi x1, vu, vu, vu] m (B + 1000)) := by
  apply sX11_softer_0 h.1
  have ok : 0 ≤ x1 → x1 ≤ 1 → okSide m x1 := fun p q => okM h ⟨p, q⟩
  refine ⟨fun p => ⟨by omega, okC h hB p, _, rv, rfl, ?_⟩, fun p => ⟨_, rv, rfl, M_softer ok (fun _ => QM_u h) (fun e => absurd e p)⟩⟩
  refine M_softer ok (fun n => absurd p n) (fun _ => ?_)
  have d := (sdR h p).1
  have n4 := d.1
  have n7 := d.2.1
  have rr := h.2.2.2.2.1.1
  have e : softC c (sdA x1) = softM m x1 := by
    unfold softC softM
    refine ffirst_congr _ _ (fun s s0 s1 => ?_)
    have : nearC c (sdA x1) (40 - s) = nearM m x1 s := by
      unfold nearC nearM
      rw [n4]
      refine ffirst_congr _ _ (fun k k0 k1 => ?_)
      rw [lv_eq d k (by omega) (by omega), lv_eq d (k - 8) (by omega) (by omega), rr.1, rr.2]
      omega
    rw [this]
  rw [e]
  exact QM_u h

