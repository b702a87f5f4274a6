/-! ===== settling both rows ===== -/
def bOk (iv : Nat → Nat → Int) : Prop := ((0 ≤ iv 16 4 ∧ iv 16 4 ≤ 400) ∧ (0 ≤ iv 20 4 ∧ iv 20 4 ≤ 400)) ∧ cOk (iv 16 4) (iv 20 4) (bcl iv) (iv 14 0) (iv 14 1)
def FB (iv : Nat → Nat → Int) : Prop := ∃ V, SolB (iv 16 4) (iv 20 4) (bcl iv) (iv 14 0) (iv 14 1) V
def LB (iv v : Nat → Nat → Int) : Prop := LstB (iv 16 4) (iv 20 4) (bcl iv) (iv 14 0) (iv 14 1) (bcv v) ∧ ∀ r p, inK (iv 16 4) (iv 20 4) r p → 0 ≤ bcv v r p ∧ bcv v r p ≤ 160000
theorem C_bLayOut {G : ZG} {d : Nat} {iv : Nat → Nat → Int} {K : Option AV → AH → Prop} {rv : Nat → Nat → Option Nat} (hR : RC rv) (h : bOk iv) (k : ∀ (b : Int) (v : Nat → Nat → Int), bG iv v ∧ ((b = 1 ∧ LB iv v) ∨ (b = 0 ∧ ¬ FB iv)) → K (some (vi b)) (mkC v rv)) : Z G mX0_layOut (d + 5) 0 0 0 [vr (some 24), vu, vu, vu] [] (mkC iv rv) K := by
  obtain ⟨hn, hc⟩ := h
  have kt : ∀ v, bG iv v → LB iv v → K (some (vi 1)) (mkC v rv) := fun v f l => k 1 v ⟨f, Or.inl ⟨rfl, l⟩⟩
  have kf : ∀ v, bG iv v → ¬ FB iv → K (some (vi 0)) (mkC v rv) := fun v f l => k 0 v ⟨f, Or.inr ⟨rfl, l⟩⟩
  apply sX0_layOut_0 hR
  generalize hw : ifill (iu (iu (iu (iu iv 29 0 0) 29 1 0) 24 6 0) 24 7 0) 28 0 800 0 = w
  have wr : ∀ i, i ≠ 28 → i ≠ 24 → i ≠ 29 → w i = iv i := fun i a b c => by rw [← hw, ifill_row a, iu_row b, iu_row b, iu_row c, iu_row c]
  have s0 : bS iv w 0 0 := by
    have w28 : ∀ j : Int, 0 ≤ j → j < 800 → w 28 j.toNat = 0 := fun j a b => by rw [← hw]; unfold ifill; rw [if_pos (by omega)]
    have w6 : w 24 6 = 0 := by rw [← hw, ifill_row (by decide), iu_k (by decide)]; exact iu_eq
    have w7 : w 24 7 = 0 := by rw [← hw, ifill_row (by decide)]; exact iu_eq
    refine ⟨fun i j a1 a2 a3 a4 a5 => ?_, ⟨?_, ?_⟩, ⟨by omega, by omega, ?_, fun i a b => by omega, fun i j a b c => by omega, fun u a b c => absurd (w28 u a b) c⟩, w7, ⟨⟨fun r p a => ?_, fun r p r' p' x a => ?_⟩, fun y _ r p a => ?_⟩, fun r p a => ?_⟩
    · by_cases c : i = 24
      · subst c; rw [← hw, ifill_row (by decide), iu_k (by omega), iu_k (by omega), iu_o (by decide), iu_o (by decide)]
      · rw [wr i a3 c a4]
    · rw [← hw, ifill_row (by decide), iu_o (by decide), iu_o (by decide), iu_k (by decide)]; exact iu_eq
    · rw [← hw, ifill_row (by decide), iu_o (by decide), iu_o (by decide)]; exact iu_eq
    · rw [w7]
      have : ∀ m : Nat, m ≤ 800 → cntf (fun i => ¬ w 28 i.toNat = 0) m = 0 := by
        intro m
        induction m with
        | zero => intro _; rfl
        | succ m ih =>
          intro hm
          unfold cntf
          rw [ih (by omega), if_neg (fun z => z (w28 m (by omega) (by omega)))]; rfl
      exact this 800 (Nat.le_refl _)
    all_goals (exfalso; unfold inK at a; omega)
  rw [wr 16 (by decide) (by decide) (by decide), wr 20 (by decide) (by decide) (by decide)]
  clear hw wr
  refine lp_up (P := fun p v => Z G mX0_layOut (d + 5) 0 0 55 [vr (some 24), vi (max (iv 16 4) (iv 20 4)), vi p, vu] [] (mkC v rv) K) (max (iv 16 4) (iv 20 4)) (fun p v => 0 ≤ p ∧ bS iv v (min (iv 16 4) p) (min (iv 20 4) p)) ?_ ?_ 0 w (by omega) ⟨by omega, by rw [show min (iv 16 4) 0 = 0 by omega, show min (iv 20 4) 0 = 0 by omega]; exact s0⟩
  · rintro v ⟨-, q⟩
    apply sX0_layOut_55 hR
    refine ⟨fun _ => kt v q.1 ?_, fun z => by omega⟩
    rw [show min (iv 16 4) (max (iv 16 4) (iv 20 4)) = iv 16 4 by omega, show min (iv 20 4) (max (iv 16 4) (iv 20 4)) = iv 20 4 by omega] at q
    exact ⟨q.2.2.2.2.1, fun r p a => by have := q.2.2.2.2.2 r p a; omega⟩
  · rintro p v hp ⟨p0, q⟩ ih
    apply sX0_layOut_55 hR
    refine ⟨fun z => by omega, fun _ => ?_⟩
    -- the three states of a part
    have rw2 : ∀ v, bS iv v (min (iv 16 4) (p + 1)) (min (iv 20 4) (p + 1)) → Z G mX0_layOut (d + 5) 0 0 62 [vr (some 24), vi (max (iv 16 4) (iv 20 4)), vi p, vi 2] [] (mkC v rv) K := by
      intro v q
      apply sX0_layOut_62 hR
      exact ⟨fun _ => ⟨by omega, ih v ⟨by omega, q⟩⟩, fun z => by omega⟩
    have r16 : ∀ v, bG iv v → v 16 = iv 16 ∧ v 20 = iv 20 := fun v f => ⟨funext fun j => f 16 j (by decide) (by decide) (by decide) (by decide) (by omega), funext fun j => f 20 j (by decide) (by decide) (by decide) (by decide) (by omega)⟩
    have rw1 : ∀ v, bS iv v (min (iv 16 4) (p + 1)) (min (iv 20 4) p) → Z G mX0_layOut (d + 5) 0 0 62 [vr (some 24), vi (max (iv 16 4) (iv 20 4)), vi p, vi 1] [] (mkC v rv) K := by
      intro v q
      apply sX0_layOut_62 hR
      have e : v (rwA 1) 4 = iv 20 4 := by rw [show rwA 1 = 20 from rfl, (r16 v q.1).2]
      rw [e]
      refine ⟨fun z => by omega, fun _ => ⟨by omega, fun g => ⟨by omega, rw2 v ?_⟩, fun g => ?_⟩⟩
      · rw [show min (iv 20 4) (p + 1) = min (iv 20 4) p by omega]; exact q
      · have kb : kp0 (min (iv 16 4) (p + 1)) 1 = min (iv 16 4) (p + 1) ∧ kp1 (min (iv 20 4) p) 1 = min (iv 20 4) (p + 1) := by
          unfold kp0 kp1; rw [if_neg (by decide), if_neg (by decide)]; omega
        refine C_addNewest (n0 := iv 16 4) (n1 := iv 20 4) hR q (Or.inr ⟨rfl, by omega, by omega, by omega, by omega⟩) (by omega) hc (Or.inr ⟨rfl, by omega, by omega⟩) (by omega) (fun v' s' => ?_) (fun v' f' n => ?_)
        · apply sX0_layOut_86 hR
          rw [kb.1, kb.2] at s'
          exact ⟨fun _ => ⟨by omega, rw2 v' s'⟩, fun z => absurd z (by decide)⟩
        · apply sX0_layOut_86 hR
          rw [kb.1, kb.2] at n
          exact ⟨fun z => absurd rfl z, fun _ => kf v' f' (fun ⟨V, hV⟩ => n ⟨V, hV.restrict (by omega) (by omega)⟩)⟩
    apply sX0_layOut_62 hR
    have e : v (rwA 0) 4 = iv 16 4 := by rw [show rwA 0 = 16 from rfl, (r16 v q.1).1]
    rw [e]
    refine ⟨fun z => by omega, fun _ => ⟨by omega, fun g => ⟨by omega, rw1 v ?_⟩, fun g => ?_⟩⟩
    · rw [show min (iv 16 4) (p + 1) = min (iv 16 4) p by omega]; exact q
    · have kb : kp0 (min (iv 16 4) p) 0 = min (iv 16 4) (p + 1) ∧ kp1 (min (iv 20 4) p) 0 = min (iv 20 4) p := by
        unfold kp0 kp1; rw [if_pos rfl, if_pos rfl]; omega
      refine C_addNewest (n0 := iv 16 4) (n1 := iv 20 4) hR q (Or.inl ⟨rfl, by omega, by omega, by omega, by omega⟩) (by omega) hc (Or.inl ⟨rfl, by omega, by omega⟩) (by omega) (fun v' s' => ?_) (fun v' f' n => ?_)
      · apply sX0_layOut_86 hR
        rw [kb.1, kb.2] at s'
        exact ⟨fun _ => ⟨by omega, rw1 v' s'⟩, fun z => absurd z (by decide)⟩
      · apply sX0_layOut_86 hR
        rw [kb.1, kb.2] at n
        exact ⟨fun z => absurd rfl z, fun _ => kf v' f' (fun ⟨V, hV⟩ => n ⟨V, hV.restrict (by omega) (by omega)⟩)⟩
set_option maxRecDepth 20000 in
theorem sX0_settle_0 {G : ZG} {d : Nat} {iv : Nat → Nat → Int} {K : Option AV → AH → Prop} {rv : Nat → Nat → Option Nat} (hR : RC rv) (h : (-2147483648 ≤ ((iv 16 6) + (iv 20 6)) ∧ ((iv 16 6) + (iv 20 6)) ≤ 2147483647) ∧ ((-2147483648 ≤ (((iv 16 6) + (iv 20 6)) + (iv 14 2)) ∧ (((iv 16 6) + (iv 20 6)) + (iv 14 2)) ≤ 2147483647) ∧ (((((iv 16 6) + (iv 20 6)) + (iv 14 2)) = (iv 24 9) → (((iv 24 10) = 0 ∨ (iv 24 10) = 1) ∧ K (some (vi (iv 24 10))) (mkC iv rv))) ∧ (¬ (((iv 16 6) + (iv 20 6)) + (iv 14 2)) = (iv 24 9) → ((bOk (iu iv 24 9 (((iv 16 6) + (iv 20 6)) + (iv 14 2)))) ∧ ((∀ (b3 : Int), ∀ (v4 : Nat → Nat → Int), (bG (iu iv 24 9 (((iv 16 6) + (iv 20 6)) + (iv 14 2))) v4 ∧ ((b3 = 1 ∧ LB (iu iv 24 9 (((iv 16 6) + (iv 20 6)) + (iv 14 2))) v4) ∨ (b3 = 0 ∧ ¬ FB (iu iv 24 9 (((iv 16 6) + (iv 20 6)) + (iv 14 2)))))) → ((b3 = 0 ∨ b3 = 1) ∧ ((b3 = 0 ∨ b3 = 1) ∧ K (some (vi b3)) (mkC (iu v4 24 10 b3) rv)))))))))) : Z G mX0_settle (d + 6) 0 0 0 [vr (some 24), vu] [] (mkC iv rv) K := (Z_aload_n (dX0_settle 0) rfl (Z_gRC (r := (some 25)) (dX0_settle 1) lk_X0_11 sC24 rfl (hR 31) (Z_iconst (dX0_settle 2) ⟨by decide, by decide⟩ (Z_alC (r := (some 16)) (dX0_settle 3) sC25 (Or.inr (Or.inl rfl)) ⟨by decide, by decide⟩ (hR 37) (Z_gIC (x := (iv 16 6)) (dX0_settle 4) lk_X0_49 (Sd_sh (Or.inl rfl)) (Or.inl rfl) rfl (Z_aload_n (dX0_settle 5) rfl (Z_gRC (r := (some 25)) (dX0_settle 6) lk_X0_11 sC24 rfl (hR 31) (Z_iconst (dX0_settle 7) ⟨by decide, by decide⟩ (Z_alC (r := (some 20)) (dX0_settle 8) sC25 (Or.inr (Or.inl rfl)) ⟨by decide, by decide⟩ (hR 38) (Z_gIC (x := (iv 20 6)) (dX0_settle 9) lk_X0_49 (Sd_sh (Or.inr (Or.inl rfl))) (Or.inl rfl) rfl (Z_iadd (dX0_settle 10) h.1 (Z_aload_n (dX0_settle 11) rfl (Z_gRC (r := (some 14)) (dX0_settle 12) lk_X0_17 sC24 rfl (hR 32) (Z_gIC (x := (iv 14 2)) (dX0_settle 13) lk_X0_52 sC14 (Or.inl rfl) rfl (Z_iadd (dX0_settle 14) h.2.1 (Z_istore_n (dX0_settle 15) (Nat.le_of_ble_eq_true rfl) rfl (Z_iload_n (dX0_settle 16) rfl (Z_aload_n (dX0_settle 17) rfl (Z_gIC (x := (iv 24 9)) (dX0_settle 18) lk_X0_35 sC24 (Or.inl rfl) rfl (Z_icmp_eq (dX0_settle 19) rfl (fun c1 => (Z_aload_n (dX0_settle 27) rfl (Z_gIC (x := (iv 24 10)) (dX0_settle 28) lk_X0_59 sC24 (Or.inr rfl) rfl (Z_zreturn (dX0_settle 29) rfl (h.2.2.1 c1).1 (h.2.2.1 c1).2)))) (fun c2 => (Z_aload_n (dX0_settle 20) rfl (Z_iload_n (dX0_settle 21) rfl (Z_putIC (dX0_settle 22) lk_X0_35 sC24 rfl (Or.inl rfl) (Z_aload_n (dX0_settle 23) rfl (Z_aload_n (dX0_settle 24) rfl (Z_cVC (As := []) (S := [vr (some 24)]) (dX0_settle 25) lk_X0_55 sC24 (by decide) rfl rfl (Nat.le_of_ble_eq_true rfl) (Nat.le_of_ble_eq_true rfl) (C_bLayOut hR (h.2.2.2 c2).1 (fun b3 v4 c5 => (Z_putZC (dX0_settle 26) lk_X0_59 sC24 rfl ((h.2.2.2 c2).2 b3 v4 c5).1 (Or.inl rfl) (Z_aload_n (dX0_settle 27) rfl (Z_gIC (x := b3) (dX0_settle 28) lk_X0_59 sC24 (Or.inr rfl) iu_eq (Z_zreturn (dX0_settle 29) rfl ((h.2.2.2 c2).2 b3 v4 c5).2.1 ((h.2.2.2 c2).2 b3 v4 c5).2.2)))))))))))))))))))))))))))))))))

