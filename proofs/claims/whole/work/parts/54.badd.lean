/-! ===== passing on, adding ===== -/
theorem C_liftBehind {G : ZG} {d : Nat} {w v : Nat → Nat → Int} {K : Option AV → AH → Prop} {rv : Nat → Nat → Option Nat} {k ur up x1 x2 x3 : Int} (hR : RC rv) (hw : wOk w) (h : pI w v k ur up) (h1 : x1 = 0 ∨ x1 = 1) (h3 : 0 ≤ x3 ∧ x3 ≤ 1000000000) (hl : bK w x1 x2 → (∀ V, SB w V → x3 + bcl w x1 x2 ≤ V x1 x2) ∧ x3 + bcl w x1 x2 ≤ 160000 + 100 * k) (hne : ¬ (x1 = ur ∧ x2 = up)) (hu : bK w ur up) (k1 : ∀ v', pI w v' k ur up → (∀ r p, bK w r p → bcv v r p ≤ bcv v' r p) → (bK w x1 x2 → x3 + bcl w x1 x2 ≤ bcv v' x1 x2) → bcv v' ur up = bcv v ur up → K (some (vi 1)) (mkC v' rv)) (k0 : (¬ ∃ V, SB w V) → K (some (vi 0)) (mkC v rv)) : Z G mX0_liftBehind (d + 2) 0 0 0 [vr (some 24), vi x1, vi x2, vi x3] [] (mkC v rv) K := by
  obtain ⟨r29, -, rl, r8, -⟩ := pI_29 h
  apply sX0_liftBehind_0 hR
  rw [r29, rl, ← kn_iff h1]
  refine ⟨by omega, fun n => k1 v h (fun _ _ _ => Int.le_refl _) (fun b => absurd b n) rfl, fun b => ?_⟩
  have nb := bK_n hw.1 b
  have cb := hw.2.1.2.2 x1 x2 b
  have el : w (rwA x1 + 1) x2.toNat = bcl w x1 x2 := rfl
  rw [el]
  refine ⟨by omega, by omega, by omega, C_lift hR hw h h1 hl hne hu (fun v' a1 a2 a3 a4 => ?_) (fun z => ?_)⟩
  · refine Z.fg (L' := [vu, vu, vu, vu]) ⟨Or.inr rfl, Or.inr rfl, Or.inr rfl, Or.inr rfl, trivial⟩ ?_
    apply sX0_liftBehind_28 hR
    exact ⟨fun z => absurd z (by decide), fun _ => k1 v' a1 a2 a3 a4⟩
  · refine Z.fg (L' := [vu, vu, vu, vu]) ⟨Or.inr rfl, Or.inr rfl, Or.inr rfl, Or.inr rfl, trivial⟩ ?_
    apply sX0_liftBehind_28 hR
    exact ⟨fun _ => k0 z, fun n => absurd rfl n⟩
theorem C_passOn {G : ZG} {d : Nat} {w v : Nat → Nat → Int} {K : Option AV → AH → Prop} {rv : Nat → Nat → Option Nat} {k x1 x2 : Int} (hR : RC rv) (hw : wOk w) (hk : 0 ≤ k ∧ k ≤ 2000000) (h : pI w v k x1 x2) (hu : bK w x1 x2) (hb : bcv v x1 x2 + 100 ≤ 160000 + 100 * k) (k1 : ∀ v', pI w v' k (-1) (-1) → K (some (vi 1)) (mkC v' rv)) (k0 : ∀ v', bF w v' → (¬ ∃ V, SB w V) → K (some (vi 0)) (mkC v' rv)) : Z G mX0_passOn (d + 3) 0 0 0 [vr (some 24), vi x1, vi x2, vu, vu] [] (mkC v rv) K := by
  have nu := bK_n hw.1 hu
  obtain ⟨r29, r14, rl, r8, rc⟩ := pI_29 h
  have gb := h.2.2.2.2.2.2.2.1 x1 x2 hu
  have cu := hw.2.1.2.2 x1 x2 hu
  have land := hw.2.1.1
  have feed := hw.2.1.2.1
  have vs := h.2.2.2.1
  have ew : ∀ r' p' x, bK w r' p' → bE w x1 x2 r' p' x → (∀ V, SB w V → bcv v x1 x2 + x ≤ V r' p') ∧ bcv v x1 x2 + x ≤ 160000 + 100 * k := by
    intro r' p' x b e
    have wb := edg_w hw.2.1 hu b e
    refine ⟨fun V hV => ?_, by omega⟩
    have a1 := vs V hV x1 x2 hu
    have a2 := hV.2 x1 x2 r' p' x hu b e
    omega
  apply sX0_passOn_0 hR
  rw [r14, rc]
  have e26 : v 26 (400 * x1 + x2).toNat = bcv v x1 x2 := rfl
  rw [e26]
  refine ⟨by omega, by omega, by omega, by omega, by omega, cu, land, by omega, by omega, ?_⟩
  generalize hAt : bcv v x1 x2 = aT at *
  refine C_lift hR hw h nu.2.2.2.1 (fun b => ?_) (by omega) hu (fun v1 i1 m1 f1 u1 => ?_) (fun z => ?_)
  · have := ew x1 (x2 - 1) (-w 14 1) b (Or.inl ⟨rfl, rfl, rfl⟩)
    rw [show aT - w 14 1 = aT + -w 14 1 by omega]; exact this
  rotate_left
  · apply sX0_passOn_32 hR
    exact ⟨fun _ => k0 v h.1 z, fun n => absurd rfl n⟩
  apply sX0_passOn_32 hR
  refine ⟨fun z => absurd z (by decide), fun _ => ⟨by omega, C_lift hR hw i1 nu.2.2.2.1 (fun b => ?_) (by omega) hu (fun v2 i2 m2 f2 u2 => ?_) (fun z => ?_)⟩⟩
  · have := ew x1 (x2 + 1) 0 b (Or.inr (Or.inl ⟨rfl, rfl, rfl⟩))
    rw [Int.add_zero] at this; exact this
  rotate_left
  · refine Z.fg (L' := [vr (some 24), vi x1, vi x2, vu, vi (aT + bcl w x1 x2 + w 14 0)]) ⟨Or.inl rfl, Or.inl rfl, Or.inl rfl, Or.inr rfl, Or.inl rfl, trivial⟩ ?_
    apply sX0_passOn_44 hR
    exact ⟨fun _ => k0 v1 i1.1 z, fun n => absurd rfl n⟩
  refine Z.fg (L' := [vr (some 24), vi x1, vi x2, vu, vi (aT + bcl w x1 x2 + w 14 0)]) ⟨Or.inl rfl, Or.inl rfl, Or.inl rfl, Or.inr rfl, Or.inl rfl, trivial⟩ ?_
  apply sX0_passOn_44 hR
  refine ⟨fun z => absurd z (by decide), fun _ => ⟨by omega, C_liftBehind hR hw i2 nu.2.2.2.1 (by omega) (fun b => ?_) (by omega) hu (fun v3 i3 m3 f3 u3 => ?_) (fun z => ?_)⟩⟩
  · have := ew x1 (x2 + 8) (bcl w x1 x2 + bcl w x1 (x2 + 8) + w 14 0) b (Or.inr (Or.inr (Or.inl ⟨rfl, rfl, rfl⟩)))
    rw [show aT + bcl w x1 x2 + w 14 0 + bcl w x1 (x2 + 8) = aT + (bcl w x1 x2 + bcl w x1 (x2 + 8) + w 14 0) by omega]; exact this
  rotate_left
  · apply sX0_passOn_58 hR
    exact ⟨fun _ => k0 v2 i2.1 z, fun n => absurd rfl n⟩
  have e3 : bcv v3 x1 x2 = aT := by rw [u3, u2, u1]; exact hAt
  have key : ∀ (p' : Int) (v4 : Nat → Nat → Int), p' = (if x1 = 0 then x2 else x2 + 8) → pI w v4 k x1 x2 → (∀ r p, bK w r p → bcv v3 r p ≤ bcv v4 r p) → (bK w (1 - x1) p' → aT + bcl w x1 x2 + w 14 0 + bcl w (1 - x1) p' ≤ bcv v4 (1 - x1) p') → bcv v4 x1 x2 = bcv v3 x1 x2 → K (some (vi 1)) (mkC v4 rv) := by
    intro p' v4 hp' i4 m4 f4 u4
    refine k1 v4 ?_
    obtain ⟨g1, g2, g3, g4, g5, g6, g7, g8, g9⟩ := i4
    refine ⟨g1, g2, g3, g4, fun r p r' p'' x b b' e => ?_, g6, g7, g8, g9⟩
    rcases g5 r p r' p'' x b b' e with y | y | y
    · exact Or.inl y
    · exact Or.inr (Or.inl y)
    · left
      obtain ⟨y1, y2⟩ := y
      subst y1 y2
      rw [u4, e3]
      rcases e with ⟨a1, a2, a3⟩ | ⟨a1, a2, a3⟩ | ⟨a1, a2, a3⟩ | ⟨a0, a1, a2, a3⟩ | ⟨a0, a1, a2, a3⟩
      · subst a1 a2 a3
        have := f1 b'
        have := m2 _ _ b'
        have := m3 _ _ b'
        have := m4 _ _ b'
        omega
      · subst a1 a2 a3
        have := f2 b'
        have := m3 _ _ b'
        have := m4 _ _ b'
        omega
      · subst a1 a2 a3
        have := f3 b'
        have := m4 _ _ b'
        omega
      · subst a0 a1 a2 a3
        rw [if_pos rfl] at hp'
        subst hp'
        have := f4 b'
        rw [show (1 : Int) - 0 = 1 by omega] at this
        omega
      · subst a0 a1 a2 a3
        rw [if_neg (by decide)] at hp'
        subst hp'
        have := f4 b'
        rw [show (1 : Int) - 1 = 0 by omega] at this
        omega
  have last : ∀ v4, (pI w v4 k x1 x2 ∧ K (some (vi 1)) (mkC v4 rv)) → Z G mX0_passOn (d + 3) 0 0 82 [vr (some 24), vi x1, vi x2, vu, vi (aT + bcl w x1 x2 + w 14 0)] [vi 1] (mkC v4 rv) K := by
    intro v4 q
    refine Z.fg (L' := [vu, vu, vu, vu, vu]) ⟨Or.inr rfl, Or.inr rfl, Or.inr rfl, Or.inr rfl, Or.inr rfl, trivial⟩ ?_
    apply sX0_passOn_82 hR
    exact ⟨fun z => absurd z (by decide), fun _ => q.2⟩
  have lost : (¬ ∃ V, SB w V) → Z G mX0_passOn (d + 3) 0 0 82 [vr (some 24), vi x1, vi x2, vu, vi (aT + bcl w x1 x2 + w 14 0)] [vi 0] (mkC v3 rv) K := by
    intro z
    refine Z.fg (L' := [vu, vu, vu, vu, vu]) ⟨Or.inr rfl, Or.inr rfl, Or.inr rfl, Or.inr rfl, Or.inr rfl, trivial⟩ ?_
    apply sX0_passOn_82 hR
    exact ⟨fun _ => k0 v3 i3.1 z, fun n => absurd rfl n⟩
  apply sX0_passOn_58 hR
  refine ⟨fun z => absurd z (by decide), fun _ => ⟨by omega, fun n => ⟨by omega, ?_⟩, fun n => ?_⟩⟩
  · have e1 : x1 = 1 := by omega
    refine C_liftBehind hR hw i3 (by omega) (by omega) (fun b => ?_) (by omega) hu (fun v4 i4 m4 f4 u4 => last v4 ⟨i4, key _ v4 (by rw [if_neg n]) i4 m4 f4 u4⟩) lost
    have := ew (1 - x1) (x2 + 8) (bcl w x1 x2 + bcl w (1 - x1) (x2 + 8) + w 14 0) b (Or.inr (Or.inr (Or.inr (Or.inr ⟨e1, by omega, rfl, by rw [e1]; rfl⟩))))
    rw [show aT + bcl w x1 x2 + w 14 0 + bcl w (1 - x1) (x2 + 8) = aT + (bcl w x1 x2 + bcl w (1 - x1) (x2 + 8) + w 14 0) by omega]; exact this
  · refine C_liftBehind hR hw i3 (by omega) (by omega) (fun b => ?_) (by omega) hu (fun v4 i4 m4 f4 u4 => last v4 ⟨i4, key _ v4 (by rw [if_pos n]) i4 m4 f4 u4⟩) lost
    have := ew (1 - x1) x2 (bcl w x1 x2 + bcl w (1 - x1) x2 + w 14 0) b (Or.inr (Or.inr (Or.inr (Or.inl ⟨n, by omega, rfl, by rw [n]; rfl⟩))))
    rw [show aT + bcl w x1 x2 + w 14 0 + bcl w (1 - x1) x2 = aT + (bcl w x1 x2 + bcl w (1 - x1) x2 + w 14 0) by omega]; exact this
set_option maxRecDepth 20000 in
theorem sX0_askedFor_0 {G : ZG} {d : Nat} {iv : Nat → Nat → Int} {K : Option AV → AH → Prop} {rv : Nat → Nat → Option Nat} {x1 x2 : Int} (hR : RC rv) (h : (¬ x2 = 0 → ((-2147483648 ≤ (x2 - 1) ∧ (x2 - 1) ≤ 2147483647) ∧ ((0 ≤ x1 ∧ x1 < 2) ∧ ((0 ≤ (x2 - 1) ∧ (x2 - 1) < 400) ∧ (Z G mX0_askedFor (d + 2) 0 0 16 [vr (some 24), vi x1, vi x2, vu, vu] [vi (iv 26 (400 * x1 + (x2 - 1)).toNat)] (mkC iv rv) K))))) ∧ (x2 = 0 → (Z G mX0_askedFor (d + 2) 0 0 16 [vr (some 24), vi x1, vi x2, vu, vu] [vi 0] (mkC iv rv) K))) : Z G mX0_askedFor (d + 2) 0 0 0 [vr (some 24), vi x1, vi x2, vu, vu] [] (mkC iv rv) K := (Z_iload_n (dX0_askedFor 0) rfl (Z_if_ne (dX0_askedFor 1) rfl (fun c1 => (Z_aload_n (dX0_askedFor 4) rfl (Z_iload_n (dX0_askedFor 5) rfl (Z_iload_n (dX0_askedFor 6) rfl (Z_iconst (dX0_askedFor 7) ⟨by decide, by decide⟩ (Z_isub (dX0_askedFor 8) (h.1 c1).1 (Z_cVC (As := [vi x1, vi (x2 - 1)]) (S := []) (dX0_askedFor 9) lk_X0_42 sC24 (by decide) rfl rfl (Nat.le_of_ble_eq_true rfl) (Nat.le_of_ble_eq_true rfl) (C_bPlace hR (h.1 c1).2.1 (h.1 c1).2.2.1 ((h.1 c1).2.2.2))))))))) (fun c2 => (Z_iconst (dX0_askedFor 2) ⟨by decide, by decide⟩ (Z_goto (dX0_askedFor 3) rfl (h.2 c2))))))
set_option maxRecDepth 20000 in
theorem sX0_askedFor_16 {G : ZG} {d : Nat} {iv : Nat → Nat → Int} {K : Option AV → AH → Prop} {rv : Nat → Nat → Option Nat} {x1 x2 y0 : Int} (hR : RC rv) (h : (x2 < 8 → (Z G mX0_askedFor (d + 2) 0 0 49 [vr (some 24), vi x1, vi x2, vi y0, vu] [] (mkC iv rv) K)) ∧ (8 ≤ x2 → ((-2147483648 ≤ (x2 - 8) ∧ (x2 - 8) ≤ 2147483647) ∧ ((0 ≤ x1 ∧ x1 < 2) ∧ ((0 ≤ (x2 - 8) ∧ (x2 - 8) < 400) ∧ ((0 ≤ bcv iv x1 (x2 - 8) ∧ bcv iv x1 (x2 - 8) ≤ 1000000000) ∧ ((0 ≤ bcl iv x1 (x2 - 8) ∧ bcl iv x1 (x2 - 8) ≤ 40) ∧ ((1 ≤ iv 14 0 ∧ iv 14 0 ≤ 20) ∧ ((0 ≤ x1 ∧ x1 < (2 : Nat)) ∧ ((0 ≤ x2 ∧ x2 < (400 : Nat)) ∧ ((-2147483648 ≤ ((bcv iv x1 (x2 - 8) + bcl iv x1 (x2 - 8) + iv 14 0) + (iv ((rwA x1) + 1) ((x2).toNat))) ∧ ((bcv iv x1 (x2 - 8) + bcl iv x1 (x2 - 8) + iv 14 0) + (iv ((rwA x1) + 1) ((x2).toNat))) ≤ 2147483647) ∧ (Z G mX0_askedFor (d + 2) 0 0 49 [vr (some 24), vi x1, vi x2, vi (max y0 ((bcv iv x1 (x2 - 8) + bcl iv x1 (x2 - 8) + iv 14 0) + (iv ((rwA x1) + 1) ((x2).toNat)))), vu] [] (mkC iv rv) K)))))))))))) : Z G mX0_askedFor (d + 2) 0 0 16 [vr (some 24), vi x1, vi x2, vu, vu] [vi y0] (mkC iv rv) K := (Z_istore_n (dX0_askedFor 10) (Nat.le_of_ble_eq_true rfl) rfl (Z_iload_n (dX0_askedFor 11) rfl (Z_bipush (dX0_askedFor 12) ⟨by decide, by decide⟩ (Z_icmp_lt (dX0_askedFor 13) rfl (fun c1 => (h.1 c1)) (fun c2 => (Z_iload_n (dX0_askedFor 14) rfl (Z_aload_n (dX0_askedFor 15) rfl (Z_iload_n (dX0_askedFor 16) rfl (Z_iload_n (dX0_askedFor 17) rfl (Z_bipush (dX0_askedFor 18) ⟨by decide, by decide⟩ (Z_isub (dX0_askedFor 19) (h.2 c2).1 (Z_cVC (As := [vi x1, vi (x2 - 8)]) (S := [vi y0]) (dX0_askedFor 20) lk_X0_100 sC24 (by decide) rfl rfl (Nat.le_of_ble_eq_true rfl) (Nat.le_of_ble_eq_true rfl) (C_edgeOf hR (h.2 c2).2.1 (h.2 c2).2.2.1 (h.2 c2).2.2.2.1 (h.2 c2).2.2.2.2.1 (h.2 c2).2.2.2.2.2.1 ((Z_aload_n (dX0_askedFor 21) rfl (Z_gRC (r := (some 25)) (dX0_askedFor 22) lk_X0_11 sC24 rfl (hR 31) (Z_iload_n (dX0_askedFor 23) rfl (Z_alC (r := (some (rwA x1))) (dX0_askedFor 24) sC25 (Or.inr (Or.inl rfl)) (h.2 c2).2.2.2.2.2.2.1 (rwA_r hR (h.2 c2).2.2.2.2.2.2.1) (Z_gRC (r := (some ((rwA x1) + 1))) (dX0_askedFor 25) lk_X0_46 (Sd_sh (rwA_is x1)) rfl (Sd_r1 hR (rwA_is x1)) (Z_iload_n (dX0_askedFor 26) rfl (Z_ilC (x := (iv ((rwA x1) + 1) ((x2).toNat))) (dX0_askedFor 27) (Sd_a1 (rwA_is x1)) (h.2 c2).2.2.2.2.2.2.2.1 rfl (Z_iadd (dX0_askedFor 28) (h.2 c2).2.2.2.2.2.2.2.2.1 (Z_max (dX0_askedFor 29) lk_X0_73 mt_max_s mt_ini mt_max_c (Nat.le_of_ble_eq_true rfl) (Z_istore_n (dX0_askedFor 30) (Nat.le_of_ble_eq_true rfl) rfl (h.2 c2).2.2.2.2.2.2.2.2.2))))))))))))))))))))))))
set_option maxRecDepth 20000 in
theorem sX0_askedFor_49 {G : ZG} {d : Nat} {iv : Nat → Nat → Int} {K : Option AV → AH → Prop} {rv : Nat → Nat → Option Nat} {x1 x2 x3 : Int} (hR : RC rv) (h : (¬ x1 = 1 → ((-2147483648 ≤ (x2 - 8) ∧ (x2 - 8) ≤ 2147483647) ∧ (Z G mX0_askedFor (d + 2) 0 0 64 [vr (some 24), vi x1, vi x2, vi x3, vi (x2 - 8)] [] (mkC iv rv) K))) ∧ (x1 = 1 → (Z G mX0_askedFor (d + 2) 0 0 64 [vr (some 24), vi x1, vi x2, vi x3, vi x2] [] (mkC iv rv) K))) : Z G mX0_askedFor (d + 2) 0 0 49 [vr (some 24), vi x1, vi x2, vi x3, vu] [] (mkC iv rv) K := (Z_iload_n (dX0_askedFor 31) rfl (Z_iconst (dX0_askedFor 32) ⟨by decide, by decide⟩ (Z_icmp_ne (dX0_askedFor 33) rfl (fun c1 => (Z_iload_n (dX0_askedFor 36) rfl (Z_bipush (dX0_askedFor 37) ⟨by decide, by decide⟩ (Z_isub (dX0_askedFor 38) (h.1 c1).1 (Z_istore (dX0_askedFor 39) (Nat.le_of_ble_eq_true rfl) rfl (h.1 c1).2))))) (fun c2 => (Z_iload_n (dX0_askedFor 34) rfl (Z_goto (dX0_askedFor 35) rfl (Z_istore (dX0_askedFor 39) (Nat.le_of_ble_eq_true rfl) rfl (h.2 c2))))))))
set_option maxRecDepth 20000 in
theorem sX0_askedFor_64 {G : ZG} {d : Nat} {iv : Nat → Nat → Int} {K : Option AV → AH → Prop} {rv : Nat → Nat → Option Nat} {x1 x2 x3 x4 : Int} (hR : RC rv) (h : (-2147483648 ≤ (1 - x1) ∧ (1 - x1) ≤ 2147483647) ∧ ((0 ≤ (1 - x1) ∧ (1 - x1) < (2 : Nat)) ∧ ((-2147483648 ≤ ((iv 29 ((1 - x1).toNat)) - 1) ∧ ((iv 29 ((1 - x1).toNat)) - 1) ≤ 2147483647) ∧ ((¬ (0 ≤ x4 ∧ x4 ≤ ((iv 29 ((1 - x1).toNat)) - 1)) → (K (some (vi x3)) (mkC iv rv))) ∧ (0 ≤ x4 ∧ x4 ≤ ((iv 29 ((1 - x1).toNat)) - 1) → ((-2147483648 ≤ (1 - x1) ∧ (1 - x1) ≤ 2147483647) ∧ ((0 ≤ (1 - x1) ∧ (1 - x1) < 2) ∧ ((0 ≤ x4 ∧ x4 < 400) ∧ ((0 ≤ bcv iv (1 - x1) x4 ∧ bcv iv (1 - x1) x4 ≤ 1000000000) ∧ ((0 ≤ bcl iv (1 - x1) x4 ∧ bcl iv (1 - x1) x4 ≤ 40) ∧ ((1 ≤ iv 14 0 ∧ iv 14 0 ≤ 20) ∧ ((0 ≤ x1 ∧ x1 < (2 : Nat)) ∧ ((0 ≤ x2 ∧ x2 < (400 : Nat)) ∧ ((-2147483648 ≤ ((bcv iv (1 - x1) x4 + bcl iv (1 - x1) x4 + iv 14 0) + (iv ((rwA x1) + 1) ((x2).toNat))) ∧ ((bcv iv (1 - x1) x4 + bcl iv (1 - x1) x4 + iv 14 0) + (iv ((rwA x1) + 1) ((x2).toNat))) ≤ 2147483647) ∧ (K (some (vi (max x3 ((bcv iv (1 - x1) x4 + bcl iv (1 - x1) x4 + iv 14 0) + (iv ((rwA x1) + 1) ((x2).toNat)))))) (mkC iv rv)))))))))))))))) : Z G mX0_askedFor (d + 2) 0 0 64 [vr (some 24), vi x1, vi x2, vi x3, vi x4] [] (mkC iv rv) K := (Z_iload (dX0_askedFor 40) rfl (Z_iconst (dX0_askedFor 41) ⟨by decide, by decide⟩ (Z_aload_n (dX0_askedFor 42) rfl (Z_gRC (r := (some 29)) (dX0_askedFor 43) lk_X0_32 sC24 rfl (hR 36) (Z_iconst (dX0_askedFor 44) ⟨by decide, by decide⟩ (Z_iload_n (dX0_askedFor 45) rfl (Z_isub (dX0_askedFor 46) h.1 (Z_ilC (x := (iv 29 ((1 - x1).toNat))) (dX0_askedFor 47) sC29 h.2.1 rfl (Z_iconst (dX0_askedFor 48) ⟨by decide, by decide⟩ (Z_isub (dX0_askedFor 49) h.2.2.1 (Z_cN (As := [vi x4, vi 0, vi ((iv 29 ((1 - x1).toNat)) - 1)]) (S := []) (dX0_askedFor 50) lk_X0_103 rfl (Nat.le_of_ble_eq_true rfl) (Nat.le_of_ble_eq_true rfl) (C_within hR ((Z_if_eq (dX0_askedFor 51) rfl (fun c1 => (Z_iload_n (dX0_askedFor 69) rfl (Z_ireturn (dX0_askedFor 70) rfl (h.2.2.2.1 (b01_0.mp c1))))) (fun c2 => (Z_iload_n (dX0_askedFor 52) rfl (Z_aload_n (dX0_askedFor 53) rfl (Z_iconst (dX0_askedFor 54) ⟨by decide, by decide⟩ (Z_iload_n (dX0_askedFor 55) rfl (Z_isub (dX0_askedFor 56) (h.2.2.2.2 (b01_n.mp c2)).1 (Z_iload (dX0_askedFor 57) rfl (Z_cVC (As := [vi (1 - x1), vi x4]) (S := [vi x3]) (dX0_askedFor 58) lk_X0_100 sC24 (by decide) rfl rfl (Nat.le_of_ble_eq_true rfl) (Nat.le_of_ble_eq_true rfl) (C_edgeOf hR (h.2.2.2.2 (b01_n.mp c2)).2.1 (h.2.2.2.2 (b01_n.mp c2)).2.2.1 (h.2.2.2.2 (b01_n.mp c2)).2.2.2.1 (h.2.2.2.2 (b01_n.mp c2)).2.2.2.2.1 (h.2.2.2.2 (b01_n.mp c2)).2.2.2.2.2.1 ((Z_aload_n (dX0_askedFor 59) rfl (Z_gRC (r := (some 25)) (dX0_askedFor 60) lk_X0_11 sC24 rfl (hR 31) (Z_iload_n (dX0_askedFor 61) rfl (Z_alC (r := (some (rwA x1))) (dX0_askedFor 62) sC25 (Or.inr (Or.inl rfl)) (h.2.2.2.2 (b01_n.mp c2)).2.2.2.2.2.2.1 (rwA_r hR (h.2.2.2.2 (b01_n.mp c2)).2.2.2.2.2.2.1) (Z_gRC (r := (some ((rwA x1) + 1))) (dX0_askedFor 63) lk_X0_46 (Sd_sh (rwA_is x1)) rfl (Sd_r1 hR (rwA_is x1)) (Z_iload_n (dX0_askedFor 64) rfl (Z_ilC (x := (iv ((rwA x1) + 1) ((x2).toNat))) (dX0_askedFor 65) (Sd_a1 (rwA_is x1)) (h.2.2.2.2 (b01_n.mp c2)).2.2.2.2.2.2.2.1 rfl (Z_iadd (dX0_askedFor 66) (h.2.2.2.2 (b01_n.mp c2)).2.2.2.2.2.2.2.2.1 (Z_max (dX0_askedFor 67) lk_X0_73 mt_max_s mt_ini mt_max_c (Nat.le_of_ble_eq_true rfl) (Z_istore_n (dX0_askedFor 68) (Nat.le_of_ble_eq_true rfl) rfl (Z_iload_n (dX0_askedFor 69) rfl (Z_ireturn (dX0_askedFor 70) rfl (h.2.2.2.2 (b01_n.mp c2)).2.2.2.2.2.2.2.2.2))))))))))))))))))))))))))))))))))))

