/-! ===== beside: the model, whole ===== -/
def maxA (f : Nat → Int) : Nat → Int
  | 0 => 0
  | n + 1 => max (maxA f n) (f n)
theorem maxA_ub {f : Nat → Int} : ∀ n j, j < n → f j ≤ maxA f n
  | 0, j, h => by omega
  | n + 1, j, h => by
    unfold maxA
    by_cases e : j = n
    · rw [e]; omega
    · have := maxA_ub (f := f) n j (by omega); omega
theorem maxA_0 {f : Nat → Int} : ∀ n, 0 ≤ maxA f n
  | 0 => Int.le_refl _
  | n + 1 => by have := maxA_0 (f := f) n; unfold maxA; omega
theorem maxA_le {f : Nat → Int} {B : Int} (hB : 0 ≤ B) : ∀ n, (∀ j, j < n → f j ≤ B) → maxA f n ≤ B
  | 0, _ => hB
  | n + 1, h => by
    have := maxA_le hB n (fun j q => h j (by omega))
    have := h n (by omega)
    unfold maxA; omega
theorem sumA_lt {f g : Nat → Int} {i : Nat} : ∀ m, (∀ j, j < m → f j ≤ g j) → i < m → f i < g i → sumA f m < sumA g m
  | 0, _, h, _ => by omega
  | m + 1, h, hi, lt => by
    unfold sumA
    have hm := h m (by omega)
    by_cases e : i = m
    · subst e
      have := sumA_le (f := f) (g := g) (b := 0) (by omega) i (fun j q => by have := h j (by omega); omega)
      omega
    · have := sumA_lt m (fun j q => h j (by omega)) (by omega) lt
      omega
/-- the state at the head of the loop -/
def mH (iv v : Nat → Nat → Int) : Prop := (∀ i j, i ≠ 15 → ¬ (i = 0 ∧ j = 20) → v i j = iv i j) ∧ (∀ j : Nat, j < 800 → 0 ≤ v 15 j ∧ v 15 j ≤ 1050000) ∧ (∀ j : Nat, j < 800 → ¬ mK iv j → v 15 j = 0) ∧ (∀ V, SM iv V → ∀ r p, inK (iv 7 0) (iv 7 1) r p → mcv v r p ≤ V r p) ∧ (v 0 20 = 0 → SM iv (mcv v))
theorem M_besides {G : ZG} {d : Nat} {iv : Nat → Nat → Int} {K : Option AV → AH → Prop} (hs0 : okSide iv 0) (hs1 : okSide iv 1) (hB : (¬ ∃ V, SM iv V) ∨ ∃ y, SM iv y ∧ ∀ r p, inK (iv 7 0) (iv 7 1) r p → y r p ≤ 160000) (k1 : ∀ v, (∀ i j, i ≠ 15 → ¬ (i = 0 ∧ j = 20) → v i j = iv i j) → LstB (iv 7 0) (iv 7 1) (mcl iv) (iv 0 5) (iv 0 6) (mcv v) → (∀ r p, inK (iv 7 0) (iv 7 1) r p → 0 ≤ mcv v r p ∧ mcv v r p ≤ 1050000) → K (some (vi 1)) (mkM v)) (k0 : ∀ v, (∀ i j, i ≠ 15 → ¬ (i = 0 ∧ j = 20) → v i j = iv i j) → (¬ ∃ V, SM iv V) → K (some (vi 0)) (mkM v)) : Z G mX12_besides (d + 2) 0 0 0 [vr (some 0), vu] [] (mkM iv) K := by
  have n0 : 0 ≤ iv 7 0 ∧ iv 7 0 ≤ 400 := hs0.2.1
  have n1 : 0 ≤ iv 7 1 ∧ iv 7 1 ≤ 400 := hs1.2.1
  -- stuck: it cannot be
  have stk : ∀ s : Int, (s = 0 ∨ s = 1) → ¬ stuckM iv s = -1 → ¬ ∃ V, SM iv V := by
    rintro s hs n ⟨V, hV⟩
    apply n
    rw [stuckM_none]
    intro q q8 qn
    have iK : ∀ p, 0 ≤ p → p ≤ q → inK (iv 7 0) (iv 7 1) s p := by
      intro p a b
      unfold inK
      rcases hs with e | e <;> subst e
      · left; rw [show (0 : Int).toNat = 0 from rfl] at qn; omega
      · right; rw [show (1 : Int).toNat = 1 from rfl] at qn; omega
    have dn : ∀ m : Nat, (m : Int) ≤ 8 → V s q ≤ V s (q - m) + m * iv 0 6 := by
      intro m
      induction m with
      | zero => intro _; rw [show q - ((0 : Nat) : Int) = q by omega]; omega
      | succ m ih =>
        intro hm
        have i1 := ih (by omega)
        have e := hV.2 s (q - m) s (q - m - 1) (-iv 0 6) (iK _ (by omega) (by omega)) (iK _ (by omega) (by omega)) (Or.inl ⟨rfl, rfl, rfl⟩)
        rw [show q - ((m + 1 : Nat) : Int) = q - m - 1 by omega, show ((m + 1 : Nat) : Int) * iv 0 6 = m * iv 0 6 + iv 0 6 by rw [show ((m + 1 : Nat) : Int) = (m : Int) + 1 by omega, Int.add_mul, Int.one_mul]]
        omega
    have d8 := dn 8 (by omega)
    have e := hV.2 s (q - 8) s q (mcl iv s (q - 8) + mcl iv s (q - 8 + 8) + iv 0 5) (iK _ (by omega) (by omega)) (iK _ (by omega) (by omega)) (Or.inr (Or.inr (Or.inl ⟨rfl, by omega, rfl⟩)))
    rw [show q - 8 + 8 = q by omega] at e
    unfold mcl at e
    rw [show q - ((8 : Nat) : Int) = q - 8 by omega, show ((8 : Nat) : Int) * iv 0 6 = 8 * iv 0 6 by omega] at d8
    omega
  -- a solution as a row
  have toV : ∀ V, SM iv V → ∀ v v2 : Nat → Nat → Int, (∀ r p, inK (iv 7 0) (iv 7 1) r p → mcv v r p ≤ V r p) → Rz v v2 (BCA iv) (BCA iv) → ∀ r p, inK (iv 7 0) (iv 7 1) r p → mcv v2 r p ≤ V r p := by
    intro V hV v v2 le z r p a
    have t := z.2.2.2.1 (fun j => @ite _ (mK iv j) (Classical.propDecidable _) (V ((j : Int) / 400) ((j : Int) % 400)) (v 15 j)) (fun j => ?_) (BC_of ⟨n0.2, n1.2⟩ hV) (400 * r + p).toNat
    · rw [nodeV ⟨n0.2, n1.2⟩ a] at t; exact t
    · by_cases c : mK iv j
      · rw [if_pos c]
        unfold mK at c
        have := le ((j : Int) / 400) ((j : Int) % 400) (by unfold inK; omega)
        unfold mcv at this
        rw [show (400 * ((j : Int) / 400) + (j : Int) % 400).toNat = j by omega] at this
        exact this
      · rw [if_neg c]; exact Int.le_refl _
  -- the loop
  have loop : ∀ v, mH iv v → Z G mX12_besides (d + 2) 0 0 47 [vr (some 0), vu] [] (mkM v) K := by
    refine lp_m (P := fun v => Z G mX12_besides (d + 2) 0 0 47 [vr (some 0), vu] [] (mkM v) K) (fun v => (1050000 * 800 - sumA (v 15) 800).toNat) (mH iv) ?_
    intro v h ih
    obtain ⟨g1, g2, g3, g4, g5⟩ := h
    apply sX12_besides_47
    refine ⟨fun m => k1 v g1 ⟨g5 m, g4⟩ (fun r p a => g2 _ (by unfold inK at a; omega)), fun m => ?_⟩
    generalize hv0 : iu v 0 20 0 = v0
    have f0 : ∀ i j, ¬ (i = 0 ∧ j = 20) → v0 i j = v i j := fun i j a => by rw [← hv0, iu_ap, if_neg a]
    have r0 : ∀ i, i ≠ 0 → v0 i = v i := fun i a => by rw [← hv0]; exact iu_row a
    have m0 : v0 0 20 = 0 := by rw [← hv0]; exact iu_eq
    have e7 : v0 7 = iv 7 := by rw [r0 7 (by decide)]; exact funext fun j => g1 7 j (by decide) (by omega)
    have e8 : v0 8 = iv 8 := by rw [r0 8 (by decide)]; exact funext fun j => g1 8 j (by decide) (by omega)
    have e5 : v0 0 5 = iv 0 5 := by rw [f0 0 5 (by omega)]; exact g1 0 5 (by decide) (by omega)
    have e6 : v0 0 6 = iv 0 6 := by rw [f0 0 6 (by omega)]; exact g1 0 6 (by decide) (by omega)
    have e15 : v0 15 = v 15 := r0 15 (by decide)
    have ok0 : okSide v0 0 := by unfold okSide at *; rw [e7, e8, e5, e6]; exact hs0
    have ok1 : okSide v0 1 := by unfold okSide at *; rw [e7, e8, e5, e6]; exact hs1
    have Mle : maxA (v 15) 800 ≤ 1050000 := maxA_le (by omega) 800 (fun j q => (g2 j q).2)
    have eK : ∀ j, mK v0 j ↔ mK iv j := fun j => by unfold mK; rw [e7]
    have eB : ∀ a i w, BCA v0 a i w ↔ BCA iv a i w := fun a i w => by unfold BCA BC SideC C4 C5; rw [e7, e8, e5, e6]
    refine M_bIter (M := maxA (v 15) 800) ok0 ok1 ⟨maxA_0 _, by omega⟩ (fun j q => by rw [e15]; exact ⟨(g2 j q).1, maxA_ub 800 j q⟩) ?_
    intro v2 z bd lw fr
    have z' : Rz v0 v2 (BCA iv) (BCA iv) := (z.all (fun a i w c => (eB a i w).mp c)).done (fun a i w c => (eB a i w).mpr c)
    unfold mBd at bd
    unfold mLw at lw
    rw [e7] at bd lw
    rw [e15] at lw
    have fr' : ∀ j, ¬ mK iv j → v2 15 j = v 15 j := fun j c => by rw [fr j (fun q => c ((eK j).mp q)), e15]
    have F2 : ∀ i j, i ≠ 15 → ¬ (i = 0 ∧ j = 20) → v2 i j = iv i j := fun i j a b => by rw [z.1 i j a b, f0 i j b]; exact g1 i j a b
    have le2 : ∀ V, SM iv V → ∀ r p, inK (iv 7 0) (iv 7 1) r p → mcv v2 r p ≤ V r p := fun V hV => toV V hV v0 v2 (fun r p a => by unfold mcv; rw [e15]; exact g4 V hV r p a) z'
    have pos2 : ∀ j, j < 800 → 0 ≤ v2 15 j := fun j q => by have := z.2.2.1 j; rw [e15] at this; have := (g2 j q).1; omega
    have v27 : v2 7 = iv 7 := funext fun j => F2 7 j (by decide) (by omega)
    -- too far: it cannot be
    have far : ∀ s : Int, (s = 0 ∨ s = 1) → 0 < iv 7 s.toNat → 1000000 < v2 15 (400 * s + (iv 7 s.toNat - 1)).toNat → ¬ ∃ V, SM iv V := by
      intro s hs pos gt
      rcases hB with e | ⟨y, hy, yb⟩
      · exact e
      · exfalso
        have iK : inK (iv 7 0) (iv 7 1) s (iv 7 s.toNat - 1) := by
          unfold inK
          rcases hs with e | e <;> subst e
          · left; rw [show (0 : Int).toNat = 0 from rfl] at *; omega
          · right; rw [show (1 : Int).toNat = 1 from rfl] at *; omega
        have a1 := le2 y hy s _ iK
        have a2 := yb s _ iK
        unfold mcv at a1
        omega
    -- all looked at, and no last one too far
    have nxt2 : (0 < iv 7 0 → v2 15 (400 * 0 + (iv 7 0 - 1)).toNat ≤ 1000000) → (0 < iv 7 1 → v2 15 (400 * 1 + (iv 7 1 - 1)).toNat ≤ 1000000) → Z G mX12_besides (d + 2) 0 0 47 [vr (some 0), vu] [] (mkM v2) K := by
      intro b0 b1
      have M1 : maxA (v 15) 800 ≤ 1000000 := by
        refine maxA_le (by omega) 800 (fun j q => ?_)
        by_cases c : mK iv j
        · unfold mK at c
          rcases c with c | c
          · have := lw.1 (j : Int) (by omega) c
            rw [show (400 * 0 + (j : Int)).toNat = j by omega] at this
            have := b0 (by omega)
            omega
          · have := lw.2 ((j : Int) - 400) (by omega) (by omega)
            rw [show (400 * 1 + ((j : Int) - 400)).toNat = j by omega] at this
            have := b1 (by omega)
            omega
        · rw [g3 j q c]; omega
      have bd2 : ∀ j, j < 800 → v2 15 j ≤ 1050000 := by
        intro j q
        by_cases c : mK iv j
        · unfold mK at c
          rcases c with c | c
          · have := bd.1 (j : Int) (by omega) c
            rw [show (400 * 0 + (j : Int)).toNat = j by omega] at this
            omega
          · have := bd.2 ((j : Int) - 400) (by omega) (by omega)
            rw [show (400 * 1 + ((j : Int) - 400)).toNat = j by omega] at this
            omega
        · rw [fr' j c]; exact (g2 j q).2
      by_cases mv : v2 0 20 = 1
      · refine ih v2 ⟨F2, fun j q => ⟨pos2 j q, bd2 j q⟩, fun j q c => by rw [fr' j c]; exact g3 j q c, le2, fun z => by omega⟩ ?_
        have lt : sumA (v 15) 800 < sumA (v2 15) 800 := by
          rcases z.2.2.2.2.2 mv with c | ⟨j, c⟩
          · rw [m0] at c; omega
          · rw [e15] at c
            have j8 : j < 800 := by
              apply Classical.byContradiction
              intro n
              have : ¬ mK iv j := by unfold mK; omega
              have := fr' j this
              omega
            exact sumA_lt 800 (fun i _ => by have := z.2.2.1 i; rw [e15] at this; exact this) j8 c
        have ub := sumA_le (f := v2 15) (g := fun _ => 0) (b := 1050000) (by omega) 800 (fun j q => by have := bd2 j q; omega)
        have zz : ∀ n, sumA (fun _ => 0) n = 0 := by intro n; induction n with
          | zero => rfl
          | succ n ih => unfold sumA; rw [ih]; rfl
        rw [zz] at ub
        omega
      · obtain ⟨q1, q2⟩ := z'.2.2.2.2.1 mv
        have m2 : v2 0 20 = 0 := by
          rcases z.2.1 with c | c
          · rw [c]; exact m0
          · exact absurd c mv
        have s2 : SM iv (mcv v2) := BC_to (fun r p a => pos2 _ (by unfold inK at a; omega)) (fun a i w c => by rw [q1]; exact q2 a i w c)
        apply sX12_besides_47
        exact ⟨fun _ => k1 v2 F2 ⟨s2, le2⟩ (fun r p a => ⟨pos2 _ (by unfold inK at a; omega), bd2 _ (by unfold inK at a; omega)⟩), fun c => absurd m2 c⟩
    have chk1 : (0 < iv 7 0 → v2 15 (400 * 0 + (iv 7 0 - 1)).toNat ≤ 1000000) → Z G mX12_besides (d + 2) 0 0 229 [vr (some 0), vi 1] [] (mkM v2) K := by
      intro b0
      have last : (0 < iv 7 1 → v2 15 (400 * 1 + (iv 7 1 - 1)).toNat ≤ 1000000) → Z G mX12_besides (d + 2) 0 0 229 [vr (some 0), vi (1 + 1)] [] (mkM v2) K := by
        intro b1
        apply sX12_besides_229
        exact ⟨fun _ => nxt2 b0 b1, fun c => by omega⟩
      apply sX12_besides_229
      rw [v27, show (1 : Int).toNat = 1 from rfl]
      refine ⟨fun c => by omega, fun _ => ⟨by omega, fun c => ⟨by omega, last (fun q => by omega)⟩, fun c => ⟨by omega, by omega, by omega, by omega, fun q => ⟨by omega, last (fun _ => q)⟩, fun q => k0 v2 F2 (far 1 (Or.inr rfl) c q)⟩⟩⟩
    apply sX12_besides_229
    rw [v27, show (0 : Int).toNat = 0 from rfl]
    exact ⟨fun c => by omega, fun _ => ⟨by omega, fun c => ⟨by omega, chk1 (fun q => by omega)⟩, fun c => ⟨by omega, by omega, by omega, by omega, fun q => ⟨by omega, chk1 (fun _ => q)⟩, fun q => k0 v2 F2 (far 0 (Or.inl rfl) c q)⟩⟩⟩
  apply sX12_besides_0
  refine ⟨hs0, fun n => k0 iv (fun _ _ _ _ => rfl) (stk 0 (Or.inl rfl) n), fun _ => ⟨hs1, fun _ => ?_, fun n => k0 iv (fun _ _ _ _ => rfl) (stk 1 (Or.inr rfl) n)⟩⟩
  refine lp_up (P := fun x v => Z G mX12_besides (d + 2) 0 0 22 [vr (some 0), vi x] [] (mkM v) K) 800 (fun x v => 0 ≤ x ∧ (∀ i, i ≠ 15 → v i = iv i) ∧ ∀ j : Nat, (j : Int) < x → v 15 j = 0) ?_ ?_ 0 iv (by omega) ⟨by omega, fun _ _ => rfl, fun j c => by omega⟩
  · rintro v ⟨-, f, z⟩
    apply sX12_besides_22
    refine ⟨fun _ => loop _ ⟨fun i j a b => ?_, fun j q => ?_, fun j q _ => ?_, fun V hV r p a => ?_, fun c => ?_⟩, fun c => by omega⟩
    · rw [iu_ap, if_neg b, f i a]
    · rw [iu_row (by decide), z j (by omega)]; omega
    · rw [iu_row (by decide), z j (by omega)]
    · unfold mcv
      rw [iu_row (by decide), z _ (by unfold inK at a; omega)]
      exact hV.1 r p a
    · rw [iu_eq] at c; omega
  · rintro x v hx ⟨x0, f, z⟩ ih
    apply sX12_besides_22
    refine ⟨fun c => by omega, fun _ => ⟨by omega, by omega, ih _ ⟨by omega, fun i a => by rw [iu_row a]; exact f i a, fun j c => ?_⟩⟩⟩
    by_cases e : j = x.toNat
    · rw [e]; exact iu_eq
    · rw [iu_k e]; exact z j (by omega)
set_option maxRecDepth 20000 in
theorem sX12_placeBeside_0 {G : ZG} {d : Nat} {iv : Nat → Nat → Int} {K : Option AV → AH → Prop} {x1 x2 : Int} (h : ((0 ≤ x1 ∧ x1 ≤ 1) ∧ 0 ≤ x2 ∧ x2 < (iv 7 (x1).toNat) → (Z G mX12_besides (d + 2) 0 0 0 [vr (some 0), vu] [] (mkM iv) (fun r A1 => Z G mX12_placeBeside (d + 3) 0 0 19 [vr (some 0), vi x1, vi x2] (r.toList ++ []) A1 K))) ∧ (¬ ((0 ≤ x1 ∧ x1 ≤ 1) ∧ 0 ≤ x2 ∧ x2 < (iv 7 (x1).toNat)) → (K (some (vi (-1))) (mkM (iu iv 0 0 1))))) : Z G mX12_placeBeside (d + 3) 0 0 0 [vr (some 0), vi x1, vi x2] [] (mkM iv) K := (Z_aload_n (dX12_placeBeside 0) rfl (Z_iload_n (dX12_placeBeside 1) rfl (Z_iload_n (dX12_placeBeside 2) rfl (Z_cVM (As := [vi x1, vi x2]) (S := []) (dX12_placeBeside 3) lk_X12_252 sM0 (by decide) rfl rfl (Nat.le_of_ble_eq_true rfl) (Nat.le_of_ble_eq_true rfl) (M_isPart  ((Z_if_ne (dX12_placeBeside 4) rfl (fun c1 => (Z_aload_n (dX12_placeBeside 9) rfl (Z_cVM (As := []) (S := []) (dX12_placeBeside 10) lk_X12_352 sM0 (by decide) rfl rfl (Nat.le_of_ble_eq_true rfl) (Nat.le_of_ble_eq_true rfl) (h.1 (b01_n.mp c1))))) (fun c2 => (Z_aload_n (dX12_placeBeside 5) rfl (Z_iconst (dX12_placeBeside 6) ⟨by decide, by decide⟩ (Z_cVM (As := [vi 1]) (S := []) (dX12_placeBeside 7) lk_X12_221 sM0 (by decide) rfl rfl (Nat.le_of_ble_eq_true rfl) (Nat.le_of_ble_eq_true rfl) (M_refuse  ((Z_ireturn (dX12_placeBeside 8) rfl (h.2 (b01_0.mp c2))))))))))))))))
set_option maxRecDepth 20000 in
theorem sX12_roomBeside_0 {G : ZG} {d : Nat} {iv : Nat → Nat → Int} {K : Option AV → AH → Prop} (h : Z G mX12_besides (d + 2) 0 0 0 [vr (some 0), vu] [] (mkM iv) (fun r A1 => Z G mX12_roomBeside (d + 3) 0 0 4 [vr (some 0), vu, vu] (r.toList ++ []) A1 K)) : Z G mX12_roomBeside (d + 3) 0 0 0 [vr (some 0), vu, vu] [] (mkM iv) K := (Z_aload_n (dX12_roomBeside 0) rfl (Z_cVM (As := []) (S := []) (dX12_roomBeside 1) lk_X12_352 sM0 (by decide) rfl rfl (Nat.le_of_ble_eq_true rfl) (Nat.le_of_ble_eq_true rfl) h))
set_option maxRecDepth 20000 in
theorem sX12_placeBeside_19 {G : ZG} {d : Nat} {iv : Nat → Nat → Int} {K : Option AV → AH → Prop} {x1 x2 y0 : Int} (h : (y0 = 0 → (K (some (vi (-1))) (mkM (iu iv 0 0 5)))) ∧ (¬ y0 = 0 → (((0 : Int) ≤ x1 ∧ (x1 : Int) ≤ 1 ∧ -1000 ≤ x2 ∧ x2 ≤ 1000) ∧ ((0 ≤ (400 * x1 + x2) ∧ (400 * x1 + x2) < (800 : Nat)) ∧ (K (some (vi (iv 15 ((400 * x1 + x2).toNat)))) (mkM (iu iv 0 0 0))))))) : Z G mX12_placeBeside (d + 3) 0 0 19 [vr (some 0), vi x1, vi x2] [vi y0] (mkM iv) K := (Z_if_eq (dX12_placeBeside 11) rfl (fun c1 => (Z_aload_n (dX12_placeBeside 21) rfl (Z_iconst (dX12_placeBeside 22) ⟨by decide, by decide⟩ (Z_cVM (As := [vi 5]) (S := []) (dX12_placeBeside 23) lk_X12_221 sM0 (by decide) rfl rfl (Nat.le_of_ble_eq_true rfl) (Nat.le_of_ble_eq_true rfl) (M_refuse  ((Z_ireturn (dX12_placeBeside 24) rfl (h.1 c1)))))))) (fun c2 => (Z_aload_n (dX12_placeBeside 12) rfl (Z_aload_n (dX12_placeBeside 13) rfl (Z_gRM (r := (some 15)) (dX12_placeBeside 14) lk_X12_63 sM0 rfl rfl (Z_iload_n (dX12_placeBeside 15) rfl (Z_iload_n (dX12_placeBeside 16) rfl (Z_cS (As := [vi x1, vi x2]) (S := [vr (some 15), vr (some 0)]) (dX12_placeBeside 17) lk_X12_245 rfl (Nat.le_of_ble_eq_true rfl) (Nat.le_of_ble_eq_true rfl) (M_at  (h.2 c2).1 ((Z_ilM (x := (iv 15 ((400 * x1 + x2).toNat))) (dX12_placeBeside 18) sM15 (h.2 c2).2.1 rfl (Z_cVM (As := [vi (iv 15 ((400 * x1 + x2).toNat))]) (S := []) (dX12_placeBeside 19) lk_X12_227 sM0 (by decide) rfl rfl (Nat.le_of_ble_eq_true rfl) (Nat.le_of_ble_eq_true rfl) (M_gives  ((Z_goto (dX12_placeBeside 20) rfl (Z_ireturn (dX12_placeBeside 24) rfl (h.2 c2).2.2))))))))))))))))
set_option maxRecDepth 20000 in
theorem sX12_roomBeside_4 {G : ZG} {d : Nat} {iv : Nat → Nat → Int} {K : Option AV → AH → Prop} {y0 : Int} (h : (¬ y0 = 0 → (Z G mX12_roomBeside (d + 3) 0 0 17 [vr (some 0), vi 0, vi 0] [] (mkM iv) K)) ∧ (y0 = 0 → (K (some (vi (-1))) (mkM (iu iv 0 0 5))))) : Z G mX12_roomBeside (d + 3) 0 0 4 [vr (some 0), vu, vu] [vi y0] (mkM iv) K := (Z_if_ne (dX12_roomBeside 2) rfl (fun c1 => (Z_iconst (dX12_roomBeside 7) ⟨by decide, by decide⟩ (Z_istore_n (dX12_roomBeside 8) (Nat.le_of_ble_eq_true rfl) rfl (Z_iconst (dX12_roomBeside 9) ⟨by decide, by decide⟩ (Z_istore_n (dX12_roomBeside 10) (Nat.le_of_ble_eq_true rfl) rfl (h.1 c1)))))) (fun c2 => (Z_aload_n (dX12_roomBeside 3) rfl (Z_iconst (dX12_roomBeside 4) ⟨by decide, by decide⟩ (Z_cVM (As := [vi 5]) (S := []) (dX12_roomBeside 5) lk_X12_221 sM0 (by decide) rfl rfl (Nat.le_of_ble_eq_true rfl) (Nat.le_of_ble_eq_true rfl) (M_refuse  ((Z_ireturn (dX12_roomBeside 6) rfl (h.2 c2)))))))))

