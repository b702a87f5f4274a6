/-! ===== hearing ===== -/
def lkC (iv : Nat → Nat → Int) (o : Nat) : Prop := iv o 5 = -1 ∨ (iv o 4 ≠ 0 ∧ (0 ≤ iv o 5 ∧ iv o 5 < iv 10 3 ∧ 8 ≤ iv 12 (iv o 5).toNat) ∧ ∀ k : Int, 0 ≤ k → k < 8 → 0 ≤ iv 11 (60 * iv o 5 + k).toNat ∧ iv 11 (60 * iv o 5 + k).toNat ≤ 40)
def rgK (iv : Nat → Nat → Int) (o : Nat) : Int := if iv o 5 = -1 then 0 else ringC iv o (iv o 5)
noncomputable def pTC (iv : Nat → Nat → Int) (o : Nat) : Nat → Int := pT (iv o 4) (iv o 5) (rgK iv o) (fun k => iv (o + 3) k.toNat) (knv (iv 37) (iv 38) (iv 36 3))
def mkdC (iv v : Nat → Nat → Int) (o : Nat) (t : Nat) : Prop := ∀ j : Int, 0 ≤ j → j < iv o 4 → v 39 j.toNat = c01 (plB (iv o 4) (iv o 5) (rgK iv o) (fun k => iv (o + 3) k.toNat) (knv (iv 37) (iv 38) (iv 36 3)) (t + 1) j)
def nOk (iv : Nat → Nat → Int) : Prop := kOk (iv 37) (iv 38) (iv 36 3) ∧ (∀ k : Int, 0 ≤ k → k < iv 36 3 → 0 ≤ iv 37 k.toNat ∧ iv 37 k.toNat ≤ 10000) ∧ sK (iv 37) (iv 36 3)
theorem C_follow {G : ZG} {d : Nat} {iv : Nat → Nat → Int} {K : Option AV → AH → Prop} {rv : Nat → Nat → Option Nat} {o1 : Nat} {x3 : Int} (hR : RC rv) (h1 : okSd iv o1) (hc : nearC iv o1 40 = -1) (hl : leastC iv o1) (hlk : lkC iv o1) (hsg : 0 ≤ iv 10 3 ∧ iv 10 3 ≤ 10) (hk : nOk iv) (h3 : 0 ≤ x3 ∧ x3 ≤ 20000) (k : ∀ v : Nat → Nat → Int, (∀ i, i ≠ 39 → v i = iv i) ∧ mkdC iv v o1 x3.toNat → K (some (vi (pTC iv o1 x3.toNat))) (mkC v rv)) : Z G mX2_follow (d + 4) 0 0 0 [vr (some 36), vr (some o1), vr (some 10), vi x3, vu, vu, vu, vu] [] (mkC iv rv) K := by
  have hs := h1.1
  have n39 : (o1 ≠ 39 ∧ o1 + 1 ≠ 39) ∧ o1 + 3 ≠ 39 := by rcases hs with e | e | e | e <;> subst e <;> decide
  have ub := leastC_ub h1 hc hl
  have hn := h1.2.1
  have r : ∀ i, i ≠ 39 → ifill iv 39 0 400 0 i = iv i := fun i a => ifill_row a
  apply sX2_follow_0 hR hs
  have eC : ringC (ifill iv 39 0 400 0) o1 (iv o1 5) = ringC iv o1 (iv o1 5) := by
    unfold ringC
    rw [r o1 n39.1.1, r (o1 + 1) n39.1.2, r (o1 + 3) n39.2, r 11 (by decide), r 14 (by decide)]
  rw [r o1 n39.1.1, r (o1 + 3) n39.2, r 10 (by decide), r 11 (by decide), r 12 (by decide), eC]
  refine ⟨?_, fun _ _ j a b => by have := ub j a b; omega, hsg, fun j a b c => ?_, ?_⟩
  · unfold okSd at *
    rw [r o1 n39.1.1, r (o1 + 1) n39.1.2, r 14 (by decide)]; exact h1
  · rcases hlk with e | e
    · omega
    · exact e.2.2 j a b
  · have er : iv o1 5 = -1 ∨ (0 ≤ ringC iv o1 (iv o1 5) ∧ ringC iv o1 (iv o1 5) ≤ 200000) := by
      rcases hlk with e | ⟨e1, e2, e3⟩
      · exact Or.inl e
      · right
        unfold ringC
        refine rgF_r (B := 200000) (fun k j a b c e => ?_) 8 0 _ (by omega) (by omega) ?_ ?_
        · have u1 := ub k a b
          have u2 := h1.2.2.2.1 k a b
          have u3 := e3 j c e
          have u4 := h1.2.2.1.1
          omega
        · exact (ub _ (by omega) (by omega)).1
        · have := (ub (iv o1 4 - 1) (by omega) (by omega)).2; omega
    have ev : ∀ x : Int, x = (if iv o1 4 = 0 ∨ ¬ (0 ≤ iv o1 5 ∧ iv o1 5 < iv 10 3 ∧ 8 ≤ iv 12 (iv o1 5).toNat) then -1 else ringC iv o1 (iv o1 5)) → iv o1 5 = -1 ∨ x = ringC iv o1 (iv o1 5) := by
      intro x ex
      rcases hlk with e | ⟨e1, e2, e3⟩
      · exact Or.inl e
      · right; rw [ex, if_neg (fun q => q.elim e1 (fun z => z e2))]
    have ev' := ev _ rfl
    generalize (if iv o1 4 = 0 ∨ ¬ (0 ≤ iv o1 5 ∧ iv o1 5 < iv 10 3 ∧ 8 ≤ iv 12 (iv o1 5).toNat) then -1 else ringC iv o1 (iv o1 5)) = x4 at *
    have er2 : iv o1 5 = -1 ∨ x4 = rgK iv o1 := by
      rcases ev' with e | e
      · exact Or.inl e
      · by_cases g : iv o1 5 = -1
        · exact Or.inl g
        · right; unfold rgK; rw [if_neg g]; exact e
    refine C_followL hR hs ?_ ?_ ?_ ?_ ?_ ?_ ?_ h3 ?_ ?_
    · rw [r o1 n39.1.1]; exact hn
    · rw [r o1 n39.1.1, r (o1 + 3) n39.2]
      intro j a b; have := ub j a b; omega
    · rw [r o1 n39.1.1]
      rcases ev' with e | e
      · exact Or.inl e
      · rw [e]; exact er
    · rw [r o1 n39.1.1]
      intro z
      rcases hlk with e | e
      · exact e
      · exact absurd z e.1
    · rw [r 37 (by decide), r 38 (by decide), r 36 (by decide)]; exact hk.1
    · rw [r 37 (by decide), r 36 (by decide)]; exact hk.2.1
    · rw [r 37 (by decide), r 36 (by decide)]; exact hk.2.2
    · rw [r o1 n39.1.1]
      intro j a b
      unfold ifill
      rw [if_pos (by omega)]
    · rw [r o1 n39.1.1, r (o1 + 3) n39.2, r 37 (by decide), r 38 (by decide), r 36 (by decide)]
      intro v f m
      have eT := pT_congr (n := iv o1 4) (lb := iv o1 5) (rg := x4) (rg' := rgK iv o1) (pl := fun k => iv (o1 + 3) k.toNat) (pl' := fun k => iv (o1 + 3) k.toNat) (kn := knv (iv 37) (iv 38) (iv 36 3)) (kn' := knv (iv 37) (iv 38) (iv 36 3)) hn.1 (fun _ _ _ => rfl) er2 (fun _ => rfl)
      have eB := plB_congr (n := iv o1 4) (lb := iv o1 5) (rg := x4) (rg' := rgK iv o1) (pl := fun k => iv (o1 + 3) k.toNat) (pl' := fun k => iv (o1 + 3) k.toNat) (kn := knv (iv 37) (iv 38) (iv 36 3)) (kn' := knv (iv 37) (iv 38) (iv 36 3)) hn.1 (fun _ _ _ => rfl) er2 (fun _ => rfl)
      rw [eT]
      refine k v ⟨fun i a => by rw [f i a]; exact r i a, fun j a b => ?_⟩
      rw [m j a b]
      exact c01_c (eB _ _)
set_option maxRecDepth 20000 in
theorem sX2_countUnseen_0c {G : ZG} {d : Nat} {iv : Nat → Nat → Int} {K : Option AV → AH → Prop} {rv : Nat → Nat → Option Nat} {o1 : Nat} (hR : RC rv) (h_o1 : isSd o1) (h : (okSd iv o1) ∧ ((nearC iv o1 40 = -1) ∧ ((leastC iv o1) ∧ ((lkC iv o1) ∧ ((0 ≤ iv 10 3 ∧ iv 10 3 ≤ 10) ∧ ((nOk iv) ∧ (((0 : Int) ≤ 20000 ∧ (20000 : Int) ≤ 20000) ∧ ((∀ (v1 : Nat → Nat → Int), ((∀ i, i ≠ 39 → v1 i = iv i) ∧ mkdC iv v1 o1 (20000 : Int).toNat) → (Z G mX2_countUnseen (d + 5) 0 0 15 [vr (some 36), vr (some o1), vu, vi 0, vi 0] [] (mkC v1 rv) K)))))))))) : Z G mX2_countUnseen (d + 5) 0 0 0 [vr (some 36), vr (some o1), vr (some 10), vu, vu] [] (mkC iv rv) K := (Z_aload_n (dX2_countUnseen 0) rfl (Z_aload_n (dX2_countUnseen 1) rfl (Z_aload_n (dX2_countUnseen 2) rfl (Z_sipush (dX2_countUnseen 3) ⟨by decide, by decide⟩ (Z_cVC (As := [vr (some o1), vr (some 10), vi 20000]) (S := []) (dX2_countUnseen 4) lk_X2_26 sC36 (by decide) rfl rfl (Nat.le_of_ble_eq_true rfl) (Nat.le_of_ble_eq_true rfl) (C_follow hR h.1 h.2.1 h.2.2.1 h.2.2.2.1 h.2.2.2.2.1 h.2.2.2.2.2.1 h.2.2.2.2.2.2.1 (fun v1 c2 => (Z_pop (dX2_countUnseen 5) rfl (Z_iconst (dX2_countUnseen 6) ⟨by decide, by decide⟩ (Z_istore_n (dX2_countUnseen 7) (Nat.le_of_ble_eq_true rfl) rfl (Z_iconst (dX2_countUnseen 8) ⟨by decide, by decide⟩ (Z_istore (dX2_countUnseen 9) (Nat.le_of_ble_eq_true rfl) rfl (Z.fg (L' := [vr (some 36), vr (some o1), vu, vi 0, vi 0]) (L := [vr (some 36), vr (some o1), vr (some 10), vi 0, vi 0]) ⟨Or.inl rfl, ⟨Or.inl rfl, ⟨Or.inr rfl, ⟨Or.inl rfl, ⟨Or.inl rfl, trivial⟩⟩⟩⟩⟩ (h.2.2.2.2.2.2.2 v1 c2))))))))))))))
/-- how many of the first m are not set -/
def unN (f : Nat → Int) (m : Nat) : Int := cntf (fun j => f j.toNat = 0) m
theorem C_countUnseen {G : ZG} {d : Nat} {iv : Nat → Nat → Int} {K : Option AV → AH → Prop} {rv : Nat → Nat → Option Nat} {o1 : Nat} (hR : RC rv) (h1 : okSd iv o1) (hc : nearC iv o1 40 = -1) (hl : leastC iv o1) (hlk : lkC iv o1) (hsg : 0 ≤ iv 10 3 ∧ iv 10 3 ≤ 10) (hk : nOk iv) (k : ∀ v : Nat → Nat → Int, (∀ i, i ≠ 39 → v i = iv i) ∧ mkdC iv v o1 20000 → K (some (vi (unN (v 39) (iv o1 4).toNat))) (mkC v rv)) : Z G mX2_countUnseen (d + 5) 0 0 0 [vr (some 36), vr (some o1), vr (some 10), vu, vu] [] (mkC iv rv) K := by
  have n39 : o1 ≠ 39 := by rcases h1.1 with e | e | e | e <;> subst e <;> decide
  apply sX2_countUnseen_0c hR h1.1
  refine ⟨h1, hc, hl, hlk, hsg, hk, by omega, fun v c => ?_⟩
  have kk := k v c
  have hn := h1.2.1
  have e4 : v o1 4 = iv o1 4 := by rw [c.1 o1 n39]
  refine lp_up (P := fun j s => Z G mX2_countUnseen (d + 5) 0 0 15 [vr (some 36), vr (some o1), vu, vi s, vi j] [] (mkC v rv) K) (iv o1 4) (fun j s => 0 ≤ j ∧ s = unN (v 39) j.toNat) ?_ ?_ 0 0 hn.1 ⟨by omega, rfl⟩
  · rintro s ⟨-, e⟩
    apply sX2_countUnseen_15 hR h1.1
    rw [e4, e]
    exact ⟨fun _ => kk, fun z => by omega⟩
  · rintro j s hj ⟨j0, e⟩ ih
    have cr := cntf_r (P := fun j => v 39 j.toNat = 0) j.toNat
    have cs : unN (v 39) (j + 1).toNat = (if v 39 j.toNat = 0 then unN (v 39) j.toNat + 1 else unN (v 39) j.toNat) := by
      rw [show (j + 1).toNat = j.toNat + 1 by omega]
      unfold unN
      conv => lhs; unfold cntf
      rw [show (((j.toNat : Nat) : Int)).toNat = j.toNat by omega]
      try (split <;> omega)
    apply sX2_countUnseen_15 hR h1.1
    unfold unN at e
    rw [e4]
    refine ⟨fun z => by omega, fun _ => ⟨by omega, fun q => ⟨by omega, ih s ⟨by omega, ?_⟩⟩, fun q => ⟨by omega, by omega, ih (s + 1) ⟨by omega, ?_⟩⟩⟩⟩
    · rw [cs, if_neg q, e]; rfl
    · rw [cs, if_pos q, e]; rfl
set_option maxRecDepth 20000 in
theorem sX11_heard_0 {G : ZG} {d : Nat} {iv : Nat → Nat → Int} {K : Option AV → AH → Prop} {rv : Nat → Nat → Option Nat} {x1 x2 : Int} (hR : RC rv) (h : (¬ (0 ≤ x1 ∧ x1 ≤ 1) → (K (some (vi (-1))) (mkC (iu iv 0 17 1) rv))) ∧ (0 ≤ x1 ∧ x1 ≤ 1 → ((0 ≤ x2 ∧ x2 ≤ 20000 → ((0 ≤ x1 ∧ x1 < (2 : Nat)) ∧ ((okSd iv (sdA x1)) ∧ ((cacheC iv (sdA x1)) ∧ ((∀ (v5 : Nat → Nat → Int), (SdF iv v5 (sdA x1) ∧ v5 (sdA x1) 7 = iv (sdA x1) 6 + iv 14 2 ∧ v5 (sdA x1) 8 = b01 (nearC iv (sdA x1) 40 = -1) ∧ (nearC iv (sdA x1) 40 = -1 → leastC v5 (sdA x1))) → ((nearC iv (sdA x1) 40 = -1 → ((0 ≤ x1 ∧ x1 < (2 : Nat)) ∧ ((okSd v5 (sdA x1)) ∧ ((nearC v5 (sdA x1) 40 = -1) ∧ ((leastC v5 (sdA x1)) ∧ ((lkC v5 (sdA x1)) ∧ ((0 ≤ v5 10 3 ∧ v5 10 3 ≤ 10) ∧ ((nOk v5) ∧ (((0 : Int) ≤ x2 ∧ (x2 : Int) ≤ 20000) ∧ ((∀ (v9 : Nat → Nat → Int), ((∀ i, i ≠ 39 → v9 i = v5 i) ∧ mkdC v5 v9 (sdA x1) (x2 : Int).toNat) → (K (some (vi (pTC v5 (sdA x1) (x2 : Int).toNat))) (mkC (iu v9 0 17 (if (pTC v5 (sdA x1) (x2 : Int).toNat) = -1 then 6 else 0)) rv))))))))))))) ∧ (¬ (nearC iv (sdA x1) 40 = -1) → (K (some (vi (-1))) (mkC (iu v5 0 17 5) rv)))))))))) ∧ (¬ (0 ≤ x2 ∧ x2 ≤ 20000) → (K (some (vi (-1))) (mkC (iu iv 0 17 1) rv)))))) : Z G mX11_heard (d + 5) 0 0 0 [vr (some 0), vi x1, vi x2] [] (mkC iv rv) K := (Z_aload_n (dX11_heard 0) rfl (Z_iload_n (dX11_heard 1) rfl (Z_cVC (As := [vi x1]) (S := []) (dX11_heard 2) lk_X11_185 sC0 (by decide) rfl rfl (Nat.le_of_ble_eq_true rfl) (Nat.le_of_ble_eq_true rfl) (C_isSide hR ((Z_if_eq (dX11_heard 3) rfl (fun c1 => (Z_aload_n (dX11_heard 9) rfl (Z_iconst (dX11_heard 10) ⟨by decide, by decide⟩ (Z_cVC (As := [vi 1]) (S := []) (dX11_heard 11) lk_X11_132 sC0 (by decide) rfl rfl (Nat.le_of_ble_eq_true rfl) (Nat.le_of_ble_eq_true rfl) (C_giveNone hR ((Z_ireturn (dX11_heard 12) rfl (h.1 (b01_0.mp c1))))))))) (fun c2 => (Z_iload_n (dX11_heard 4) rfl (Z_iconst (dX11_heard 5) ⟨by decide, by decide⟩ (Z_sipush (dX11_heard 6) ⟨by decide, by decide⟩ (Z_cS (As := [vi x2, vi 0, vi 20000]) (S := []) (dX11_heard 7) lk_X11_109 rfl (Nat.le_of_ble_eq_true rfl) (Nat.le_of_ble_eq_true rfl) (C_within hR ((Z_if_ne (dX11_heard 8) rfl (fun c3 => (Z_aload_n (dX11_heard 13) rfl (Z_gRC (r := (some 15)) (dX11_heard 14) lk_X11_32 sC0 rfl (hR 3) (Z_iload_n (dX11_heard 15) rfl (Z_alC (r := (some (sdA x1))) (dX11_heard 16) sC15 (Or.inr (Or.inl rfl)) ((h.2 (b01_n.mp c2)).1 (b01_n.mp c3)).1 (sdA_r hR ((h.2 (b01_n.mp c2)).1 (b01_n.mp c3)).1) (Z_cVC (As := []) (S := []) (dX11_heard 17) lk_X11_210 (Sd_sh (sdA_is x1)) (by decide) rfl rfl (Nat.le_of_ble_eq_true rfl) (Nat.le_of_ble_eq_true rfl) (C_settle hR ((h.2 (b01_n.mp c2)).1 (b01_n.mp c3)).2.1 ((h.2 (b01_n.mp c2)).1 (b01_n.mp c3)).2.2.1 (fun v5 c6 => (Z_if_ne (dX11_heard 18) rfl (fun c7 => (Z_aload_n (dX11_heard 23) rfl (Z_aload_n (dX11_heard 24) rfl (Z_gRC (r := (some 36)) (dX11_heard 25) lk_X11_65 sC0 rfl (hR 7) (Z_aload_n (dX11_heard 26) rfl (Z_gRC (r := (some 15)) (dX11_heard 27) lk_X11_32 sC0 rfl (hR 3) (Z_iload_n (dX11_heard 28) rfl (Z_alC (r := (some (sdA x1))) (dX11_heard 29) sC15 (Or.inr (Or.inl rfl)) ((((h.2 (b01_n.mp c2)).1 (b01_n.mp c3)).2.2.2 v5 c6).1 (b01_n.mp c7)).1 (sdA_r hR ((((h.2 (b01_n.mp c2)).1 (b01_n.mp c3)).2.2.2 v5 c6).1 (b01_n.mp c7)).1) (Z_aload_n (dX11_heard 30) rfl (Z_gRC (r := (some 10)) (dX11_heard 31) lk_X11_19 sC0 rfl (hR 1) (Z_iload_n (dX11_heard 32) rfl (Z_cVC (As := [vr (some (sdA x1)), vr (some 10), vi x2]) (S := [vr (some 0)]) (dX11_heard 33) lk_X11_295 sC36 (by decide) rfl rfl (Nat.le_of_ble_eq_true rfl) (Nat.le_of_ble_eq_true rfl) (C_follow hR ((((h.2 (b01_n.mp c2)).1 (b01_n.mp c3)).2.2.2 v5 c6).1 (b01_n.mp c7)).2.1 ((((h.2 (b01_n.mp c2)).1 (b01_n.mp c3)).2.2.2 v5 c6).1 (b01_n.mp c7)).2.2.1 ((((h.2 (b01_n.mp c2)).1 (b01_n.mp c3)).2.2.2 v5 c6).1 (b01_n.mp c7)).2.2.2.1 ((((h.2 (b01_n.mp c2)).1 (b01_n.mp c3)).2.2.2 v5 c6).1 (b01_n.mp c7)).2.2.2.2.1 ((((h.2 (b01_n.mp c2)).1 (b01_n.mp c3)).2.2.2 v5 c6).1 (b01_n.mp c7)).2.2.2.2.2.1 ((((h.2 (b01_n.mp c2)).1 (b01_n.mp c3)).2.2.2 v5 c6).1 (b01_n.mp c7)).2.2.2.2.2.2.1 ((((h.2 (b01_n.mp c2)).1 (b01_n.mp c3)).2.2.2 v5 c6).1 (b01_n.mp c7)).2.2.2.2.2.2.2.1 (fun v9 c10 => (Z_cVC (As := [vi (pTC v5 (sdA x1) (x2 : Int).toNat)]) (S := []) (dX11_heard 34) lk_X11_223 sC0 (by decide) rfl rfl (Nat.le_of_ble_eq_true rfl) (Nat.le_of_ble_eq_true rfl) (C_giveIfAny hR ((Z_ireturn (dX11_heard 35) rfl (((((h.2 (b01_n.mp c2)).1 (b01_n.mp c3)).2.2.2 v5 c6).1 (b01_n.mp c7)).2.2.2.2.2.2.2.2 v9 c10))))))))))))))))))) (fun c8 => (Z_aload_n (dX11_heard 19) rfl (Z_iconst (dX11_heard 20) ⟨by decide, by decide⟩ (Z_cVC (As := [vi 5]) (S := []) (dX11_heard 21) lk_X11_132 sC0 (by decide) rfl rfl (Nat.le_of_ble_eq_true rfl) (Nat.le_of_ble_eq_true rfl) (C_giveNone hR ((Z_ireturn (dX11_heard 22) rfl ((((h.2 (b01_n.mp c2)).1 (b01_n.mp c3)).2.2.2 v5 c6).2 (b01_0.mp c8)))))))))))))))))) (fun c4 => (Z_aload_n (dX11_heard 9) rfl (Z_iconst (dX11_heard 10) ⟨by decide, by decide⟩ (Z_cVC (As := [vi 1]) (S := []) (dX11_heard 11) lk_X11_132 sC0 (by decide) rfl rfl (Nat.le_of_ble_eq_true rfl) (Nat.le_of_ble_eq_true rfl) (C_giveNone hR ((Z_ireturn (dX11_heard 12) rfl ((h.2 (b01_n.mp c2)).2 (b01_0.mp c4)))))))))))))))))))))))
set_option maxRecDepth 20000 in
theorem sX11_missed_0 {G : ZG} {d : Nat} {iv : Nat → Nat → Int} {K : Option AV → AH → Prop} {rv : Nat → Nat → Option Nat} {x1 : Int} (hR : RC rv) (h : (0 ≤ x1 ∧ x1 ≤ 1 → ((0 ≤ x1 ∧ x1 < (2 : Nat)) ∧ ((okSd iv (sdA x1)) ∧ ((cacheC iv (sdA x1)) ∧ ((∀ (v3 : Nat → Nat → Int), (SdF iv v3 (sdA x1) ∧ v3 (sdA x1) 7 = iv (sdA x1) 6 + iv 14 2 ∧ v3 (sdA x1) 8 = b01 (nearC iv (sdA x1) 40 = -1) ∧ (nearC iv (sdA x1) 40 = -1 → leastC v3 (sdA x1))) → ((nearC iv (sdA x1) 40 = -1 → ((0 ≤ x1 ∧ x1 < (2 : Nat)) ∧ ((okSd v3 (sdA x1)) ∧ ((nearC v3 (sdA x1) 40 = -1) ∧ ((leastC v3 (sdA x1)) ∧ ((lkC v3 (sdA x1)) ∧ ((0 ≤ v3 10 3 ∧ v3 10 3 ≤ 10) ∧ ((nOk v3) ∧ ((∀ (v7 : Nat → Nat → Int), ((∀ i, i ≠ 39 → v7 i = v3 i) ∧ mkdC v3 v7 (sdA x1) 20000) → (K (some (vi (unN (v7 39) (v3 (sdA x1) 4).toNat))) (mkC (iu v7 0 17 0) rv)))))))))))) ∧ (¬ (nearC iv (sdA x1) 40 = -1) → (K (some (vi (-1))) (mkC (iu v3 0 17 5) rv)))))))))) ∧ (¬ (0 ≤ x1 ∧ x1 ≤ 1) → (K (some (vi (-1))) (mkC (iu iv 0 17 1) rv)))) : Z G mX11_missed (d + 6) 0 0 0 [vr (some 0), vi x1] [] (mkC iv rv) K := (Z_aload_n (dX11_missed 0) rfl (Z_iload_n (dX11_missed 1) rfl (Z_cVC (As := [vi x1]) (S := []) (dX11_missed 2) lk_X11_185 sC0 (by decide) rfl rfl (Nat.le_of_ble_eq_true rfl) (Nat.le_of_ble_eq_true rfl) (C_isSide hR ((Z_if_ne (dX11_missed 3) rfl (fun c1 => (Z_aload_n (dX11_missed 8) rfl (Z_gRC (r := (some 15)) (dX11_missed 9) lk_X11_32 sC0 rfl (hR 3) (Z_iload_n (dX11_missed 10) rfl (Z_alC (r := (some (sdA x1))) (dX11_missed 11) sC15 (Or.inr (Or.inl rfl)) (h.1 (b01_n.mp c1)).1 (sdA_r hR (h.1 (b01_n.mp c1)).1) (Z_cVC (As := []) (S := []) (dX11_missed 12) lk_X11_210 (Sd_sh (sdA_is x1)) (by decide) rfl rfl (Nat.le_of_ble_eq_true rfl) (Nat.le_of_ble_eq_true rfl) (C_settle hR (h.1 (b01_n.mp c1)).2.1 (h.1 (b01_n.mp c1)).2.2.1 (fun v3 c4 => (Z_if_ne (dX11_missed 13) rfl (fun c5 => (Z_aload_n (dX11_missed 18) rfl (Z_aload_n (dX11_missed 19) rfl (Z_gRC (r := (some 36)) (dX11_missed 20) lk_X11_65 sC0 rfl (hR 7) (Z_aload_n (dX11_missed 21) rfl (Z_gRC (r := (some 15)) (dX11_missed 22) lk_X11_32 sC0 rfl (hR 3) (Z_iload_n (dX11_missed 23) rfl (Z_alC (r := (some (sdA x1))) (dX11_missed 24) sC15 (Or.inr (Or.inl rfl)) (((h.1 (b01_n.mp c1)).2.2.2 v3 c4).1 (b01_n.mp c5)).1 (sdA_r hR (((h.1 (b01_n.mp c1)).2.2.2 v3 c4).1 (b01_n.mp c5)).1) (Z_aload_n (dX11_missed 25) rfl (Z_gRC (r := (some 10)) (dX11_missed 26) lk_X11_19 sC0 rfl (hR 1) (Z_cVC (As := [vr (some (sdA x1)), vr (some 10)]) (S := [vr (some 0)]) (dX11_missed 27) lk_X11_305 sC36 (by decide) rfl rfl (Nat.le_of_ble_eq_true rfl) (Nat.le_of_ble_eq_true rfl) (C_countUnseen hR (((h.1 (b01_n.mp c1)).2.2.2 v3 c4).1 (b01_n.mp c5)).2.1 (((h.1 (b01_n.mp c1)).2.2.2 v3 c4).1 (b01_n.mp c5)).2.2.1 (((h.1 (b01_n.mp c1)).2.2.2 v3 c4).1 (b01_n.mp c5)).2.2.2.1 (((h.1 (b01_n.mp c1)).2.2.2 v3 c4).1 (b01_n.mp c5)).2.2.2.2.1 (((h.1 (b01_n.mp c1)).2.2.2 v3 c4).1 (b01_n.mp c5)).2.2.2.2.2.1 (((h.1 (b01_n.mp c1)).2.2.2 v3 c4).1 (b01_n.mp c5)).2.2.2.2.2.2.1 (fun v7 c8 => (Z_cVC (As := [vi (unN (v7 39) (v3 (sdA x1) 4).toNat)]) (S := []) (dX11_missed 28) lk_X11_166 sC0 (by decide) rfl rfl (Nat.le_of_ble_eq_true rfl) (Nat.le_of_ble_eq_true rfl) (C_give hR ((Z_ireturn (dX11_missed 29) rfl ((((h.1 (b01_n.mp c1)).2.2.2 v3 c4).1 (b01_n.mp c5)).2.2.2.2.2.2.2 v7 c8)))))))))))))))))) (fun c6 => (Z_aload_n (dX11_missed 14) rfl (Z_iconst (dX11_missed 15) ⟨by decide, by decide⟩ (Z_cVC (As := [vi 5]) (S := []) (dX11_missed 16) lk_X11_132 sC0 (by decide) rfl rfl (Nat.le_of_ble_eq_true rfl) (Nat.le_of_ble_eq_true rfl) (C_giveNone hR ((Z_ireturn (dX11_missed 17) rfl (((h.1 (b01_n.mp c1)).2.2.2 v3 c4).2 (b01_0.mp c6)))))))))))))))))) (fun c2 => (Z_aload_n (dX11_missed 4) rfl (Z_iconst (dX11_missed 5) ⟨by decide, by decide⟩ (Z_cVC (As := [vi 1]) (S := []) (dX11_missed 6) lk_X11_132 sC0 (by decide) rfl rfl (Nat.le_of_ble_eq_true rfl) (Nat.le_of_ble_eq_true rfl) (C_giveNone hR ((Z_ireturn (dX11_missed 7) rfl (h.2 (b01_0.mp c2)))))))))))))))
set_option maxRecDepth 20000 in
theorem sX11_songHeard_0 {G : ZG} {d : Nat} {iv : Nat → Nat → Int} {K : Option AV → AH → Prop} {rv : Nat → Nat → Option Nat} {x1 x2 : Int} (hR : RC rv) (h : Z G mX11_heard (d + 5) 0 0 0 [vr (some 0), vi x1, vi x2] [] (mkC iv rv) (fun r A1 => Z G mX11_songHeard (d + 6) 0 0 6 [vr (some 0), vi x1, vi x2, vu] (r.toList ++ []) A1 K)) : Z G mX11_songHeard (d + 6) 0 0 0 [vr (some 0), vi x1, vi x2, vu] [] (mkC iv rv) K := (Z_aload_n (dX11_songHeard 0) rfl (Z_iload_n (dX11_songHeard 1) rfl (Z_iload_n (dX11_songHeard 2) rfl (Z_cVC (As := [vi x1, vi x2]) (S := []) (dX11_songHeard 3) lk_X11_299 sC0 (by decide) rfl rfl (Nat.le_of_ble_eq_true rfl) (Nat.le_of_ble_eq_true rfl) h))))
set_option maxRecDepth 20000 in
theorem sX11_songHeard_6 {G : ZG} {d : Nat} {iv : Nat → Nat → Int} {K : Option AV → AH → Prop} {rv : Nat → Nat → Option Nat} {x1 y0 : Int} (hR : RC rv) (h : ((iv 0 17) = 0 → ((0 ≤ x1 ∧ x1 < (2 : Nat)) ∧ ((0 ≤ iv (sdA x1) 4 ∧ iv (sdA x1) 4 ≤ 400) ∧ (K (some (vi (if 0 ≤ y0 ∧ y0 < iv (sdA x1) 4 then iv ((sdA x1) + 2) (y0).toNat else iv (sdA x1) 5))) (mkC (iu iv 0 17 0) rv))))) ∧ (¬ (iv 0 17) = 0 → (K (some (vi (-1))) (mkC iv rv)))) : Z G mX11_songHeard (d + 6) 0 0 6 [vr (some 0), vi x1, vu, vu] [vi y0] (mkC iv rv) K := (Z_istore_n (dX11_songHeard 4) (Nat.le_of_ble_eq_true rfl) rfl (Z_aload_n (dX11_songHeard 5) rfl (Z_gIC (x := (iv 0 17)) (dX11_songHeard 6) lk_X11_102 sC0 (Or.inl rfl) rfl (Z_if_eq (dX11_songHeard 7) rfl (fun c1 => (Z_aload_n (dX11_songHeard 10) rfl (Z_aload_n (dX11_songHeard 11) rfl (Z_gRC (r := (some 15)) (dX11_songHeard 12) lk_X11_32 sC0 rfl (hR 3) (Z_iload_n (dX11_songHeard 13) rfl (Z_alC (r := (some (sdA x1))) (dX11_songHeard 14) sC15 (Or.inr (Or.inl rfl)) (h.1 c1).1 (sdA_r hR (h.1 c1).1) (Z_iload_n (dX11_songHeard 15) rfl (Z_cVC (As := [vi y0]) (S := [vr (some 0)]) (dX11_songHeard 16) lk_X11_302 (Sd_sh (sdA_is x1)) (by decide) rfl rfl (Nat.le_of_ble_eq_true rfl) (Nat.le_of_ble_eq_true rfl) (C_songOf hR (sdA_is x1) (h.1 c1).2.1 ((Z_cVC (As := [vi (if 0 ≤ y0 ∧ y0 < iv (sdA x1) 4 then iv ((sdA x1) + 2) (y0).toNat else iv (sdA x1) 5)]) (S := []) (dX11_songHeard 17) lk_X11_166 sC0 (by decide) rfl rfl (Nat.le_of_ble_eq_true rfl) (Nat.le_of_ble_eq_true rfl) (C_give hR ((Z_ireturn (dX11_songHeard 18) rfl (h.1 c1).2.2)))))))))))))) (fun c2 => (Z_iconst (dX11_songHeard 8) ⟨by decide, by decide⟩ (Z_ireturn (dX11_songHeard 9) rfl (h.2 c2))))))))

