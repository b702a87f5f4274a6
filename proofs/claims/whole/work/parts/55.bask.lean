/-! ===== what is asked for ===== -/
def aOk (v : Nat → Nat → Int) (r p : Int) : Prop := nxt (v 29 0) (v 29 1) r p ∧ p < 400 ∧ (v 29 0 ≤ 400 ∧ v 29 1 ≤ 400) ∧ cOk (kp0 (v 29 0) r) (kp1 (v 29 1) r) (bcl v) (v 14 0) (v 14 1) ∧ ∀ s q, bK v s q → 0 ≤ bcv v s q ∧ bcv v s q ≤ 160000
def exA (v : Nat → Nat → Int) (r p A : Int) : Prop := A = 0 ∨ ∃ s q w, bK v s q ∧ bE v s q r p w ∧ A = bcv v s q + w
theorem exA_max {v : Nat → Nat → Int} {r p A B : Int} (h : exA v r p A) (h' : exA v r p B) : exA v r p (max A B) := by
  by_cases c : A ≤ B
  · rw [show max A B = B by omega]; exact h'
  · rw [show max A B = A by omega]; exact h
theorem C_askedFor {G : ZG} {d : Nat} {iv : Nat → Nat → Int} {K : Option AV → AH → Prop} {rv : Nat → Nat → Option Nat} {x1 x2 : Int} (hR : RC rv) (h : aOk iv x1 x2) (k : ∀ A : Int, (0 ≤ A ∧ A ≤ 160100) ∧ askB (iv 29 0) (iv 29 1) (bcl iv) (iv 14 0) (iv 14 1) (bcv iv) x1 x2 A → K (some (vi A)) (mkC iv rv)) : Z G mX0_askedFor (d + 2) 0 0 0 [vr (some 24), vi x1, vi x2, vu, vu] [] (mkC iv rv) K := by
  obtain ⟨hn, hp, hk, hc, hb⟩ := h
  have mI : ∀ s q, bK iv s q → inK (kp0 (iv 29 0) x1) (kp1 (iv 29 1) x1) s q := fun s q a => (inK_n hn).mpr (Or.inl a)
  have mZ : inK (kp0 (iv 29 0) x1) (kp1 (iv 29 1) x1) x1 x2 := (inK_n hn).mpr (Or.inr ⟨rfl, rfl⟩)
  have cz := hc.2.2 x1 x2 mZ
  have land := hc.1
  have cI : ∀ s q, bK iv s q → 0 ≤ bcl iv s q ∧ bcl iv s q ≤ 40 := fun s q a => hc.2.2 s q (mI s q a)
  have ez : iv (rwA x1 + 1) x2.toNat = bcl iv x1 x2 := rfl
  have b1 : x1 = 0 ∨ x1 = 1 := by unfold nxt at hn; omega
  have p0 : 0 ≤ x2 := by unfold nxt at hn; omega
  -- the last step
  have s3 : ∀ (y : Int), (0 ≤ y ∧ y ≤ 160100) → exA iv x1 x2 y → (1 ≤ x2 → bcv iv x1 (x2 - 1) ≤ y) → (8 ≤ x2 → bcv iv x1 (x2 - 8) + (bcl iv x1 (x2 - 8) + bcl iv x1 x2 + iv 14 0) ≤ y) → Z G mX0_askedFor (d + 2) 0 0 49 [vr (some 24), vi x1, vi x2, vi y, vu] [] (mkC iv rv) K := by
    intro y y0 ey f1 f2
    have fin : ∀ (A : Int), (0 ≤ A ∧ A ≤ 160100) → exA iv x1 x2 A → y ≤ A → (∀ s q w, bK iv s q → ((s = 0 ∧ x1 = 1 ∧ x2 = q ∧ w = bcl iv 0 q + bcl iv 1 q + iv 14 0) ∨ (s = 1 ∧ x1 = 0 ∧ x2 = q + 8 ∧ w = bcl iv 1 q + bcl iv 0 (q + 8) + iv 14 0)) → bcv iv s q + w ≤ A) → K (some (vi A)) (mkC iv rv) := by
      intro A A0 eA yA cr
      refine k A ⟨A0, A0.1, fun s q w a e => ?_, eA⟩
      rcases e with ⟨e1, e2, e3⟩ | ⟨e1, e2, e3⟩ | ⟨e1, e2, e3⟩ | e | e
      · exfalso; unfold nxt at hn; unfold inK at a; omega
      · have := f1 (by unfold inK at a; omega)
        have e4 : q = x2 - 1 := by omega
        rw [← e1, e4, e3]; omega
      · have := f2 (by unfold inK at a; omega)
        have e4 : q = x2 - 8 := by omega
        rw [← e1, e4] at e3
        rw [← e1, e4, e3, show x2 - 8 + 8 = x2 by omega]; omega
      · exact cr s q w a (Or.inl e)
      · exact cr s q w a (Or.inr e)
    have s4 : ∀ x4 : Int, x4 = (if x1 = 1 then x2 else x2 - 8) → Z G mX0_askedFor (d + 2) 0 0 64 [vr (some 24), vi x1, vi x2, vi y, vi x4] [] (mkC iv rv) K := by
      intro x4 e4
      have kk : bK iv (1 - x1) x4 ↔ (0 ≤ x4 ∧ x4 ≤ iv 29 (1 - x1).toNat - 1) := by
        rw [kn_iff (by omega)]; omega
      have ed : bK iv (1 - x1) x4 → bE iv (1 - x1) x4 x1 x2 (bcl iv (1 - x1) x4 + bcl iv x1 x2 + iv 14 0) := by
        intro _
        rcases b1 with e | e
        · subst e
          rw [if_neg (by decide)] at e4
          refine Or.inr (Or.inr (Or.inr (Or.inr ⟨rfl, rfl, by omega, ?_⟩)))
          rw [show x4 + 8 = x2 by omega]; rfl
        · subst e
          rw [if_pos rfl] at e4
          subst e4
          exact Or.inr (Or.inr (Or.inr (Or.inl ⟨rfl, rfl, rfl, rfl⟩)))
      have k29 : iv 29 (1 - x1).toNat ≤ 400 := by
        rcases b1 with e | e <;> subst e
        · exact hk.2
        · exact hk.1
      have k29' : 0 ≤ iv 29 (1 - x1).toNat := by
        unfold nxt at hn
        rcases b1 with e | e <;> subst e
        · show 0 ≤ iv 29 1; omega
        · show 0 ≤ iv 29 0; omega
      apply sX0_askedFor_64 hR
      rw [← kk]
      refine ⟨by omega, by omega, by omega, fun n => ?_, fun n => ?_⟩
      · refine fin y y0 ey (Int.le_refl _) (fun s q w a e => absurd ?_ n)
        have : s = 1 - x1 ∧ q = x4 := by
          rcases b1 with z | z
          · rw [if_neg (by omega)] at e4; omega
          · rw [if_pos z] at e4; omega
        rw [← this.1, ← this.2]; exact a
      · have bq := hb _ _ n
        have cq := cI _ _ n
        have x4r := kk.mp n
        refine ⟨by omega, by omega, by omega, by omega, cq, land, by omega, by omega, by rw [ez]; omega, ?_⟩
        rw [ez]
        have eV : bcv iv (1 - x1) x4 + bcl iv (1 - x1) x4 + iv 14 0 + bcl iv x1 x2 = bcv iv (1 - x1) x4 + (bcl iv (1 - x1) x4 + bcl iv x1 x2 + iv 14 0) := by omega
        rw [eV]
        refine fin _ (by omega) (exA_max ey (Or.inr ⟨_, _, _, n, ed n, rfl⟩)) (by omega) (fun s q w a e => ?_)
        have t : s = 1 - x1 ∧ q = x4 ∧ w = bcl iv (1 - x1) x4 + bcl iv x1 x2 + iv 14 0 := by
          rcases b1 with z | z
          · subst z
            rw [if_neg (by decide)] at e4
            rcases e with ⟨-, c, -⟩ | ⟨c1, -, c2, c3⟩
            · omega
            · refine ⟨c1, by omega, ?_⟩
              rw [c3, ← c2, show q = x4 by omega]; rfl
          · subst z
            rw [if_pos rfl] at e4
            rcases e with ⟨c1, -, c2, c3⟩ | ⟨-, c, -⟩
            · refine ⟨c1, by omega, ?_⟩
              rw [c3, ← c2, e4]; rfl
            · omega
        rw [t.1, t.2.1, t.2.2]; omega
    apply sX0_askedFor_49 hR
    exact ⟨fun n => ⟨by omega, s4 _ (by rw [if_neg n])⟩, fun n => s4 _ (by rw [if_pos n])⟩
  have s2 : ∀ (y : Int), (0 ≤ y ∧ y ≤ 160000) → exA iv x1 x2 y → (1 ≤ x2 → bcv iv x1 (x2 - 1) ≤ y) → Z G mX0_askedFor (d + 2) 0 0 16 [vr (some 24), vi x1, vi x2, vu, vu] [vi y] (mkC iv rv) K := by
    intro y y0 ey f1
    apply sX0_askedFor_16 hR
    refine ⟨fun n => s3 y (by omega) ey f1 (fun z => by omega), fun n => ?_⟩
    have i8 : bK iv x1 (x2 - 8) := by unfold bK inK; unfold nxt at hn; omega
    have bq := hb _ _ i8
    have cq := cI _ _ i8
    have eV : bcv iv x1 (x2 - 8) + bcl iv x1 (x2 - 8) + iv 14 0 + bcl iv x1 x2 = bcv iv x1 (x2 - 8) + (bcl iv x1 (x2 - 8) + bcl iv x1 x2 + iv 14 0) := by omega
    refine ⟨by omega, by omega, by omega, by omega, cq, land, by omega, by omega, by rw [ez]; omega, ?_⟩
    rw [ez, eV]
    refine s3 _ (by omega) (exA_max ey (Or.inr ⟨_, _, _, i8, Or.inr (Or.inr (Or.inl ⟨rfl, by omega, ?_⟩)), rfl⟩)) (fun z => by have := f1 z; omega) (fun _ => by omega)
    rw [show x2 - 8 + 8 = x2 by omega]
  apply sX0_askedFor_0 hR
  refine ⟨fun n => ⟨by omega, by omega, by omega, ?_⟩, fun n => s2 0 (by omega) (Or.inl rfl) (fun z => by omega)⟩
  have i1 : bK iv x1 (x2 - 1) := by unfold bK inK; unfold nxt at hn; omega
  have bq := hb _ _ i1
  exact s2 (bcv iv x1 (x2 - 1)) (by omega) (Or.inr ⟨_, _, _, i1, Or.inr (Or.inl ⟨rfl, by omega, rfl⟩), by omega⟩) (fun _ => Int.le_refl _)
set_option maxRecDepth 20000 in
theorem sX0_addNewest_0 {G : ZG} {d : Nat} {iv : Nat → Nat → Int} {K : Option AV → AH → Prop} {rv : Nat → Nat → Option Nat} {x1 x2 : Int} (hR : RC rv) (h : (-2147483648 ≤ (x1 * 400) ∧ (x1 * 400) ≤ 2147483647) ∧ ((-2147483648 ≤ ((x1 * 400) + x2) ∧ ((x1 * 400) + x2) ≤ 2147483647) ∧ ((aOk (iu iv 24 8 ((x1 * 400) + x2)) x1 x2) ∧ ((∀ (a1 : Int), ((0 ≤ a1 ∧ a1 ≤ 160100) ∧ askB ((iu iv 24 8 ((x1 * 400) + x2)) 29 0) ((iu iv 24 8 ((x1 * 400) + x2)) 29 1) (bcl (iu iv 24 8 ((x1 * 400) + x2))) ((iu iv 24 8 ((x1 * 400) + x2)) 14 0) ((iu iv 24 8 ((x1 * 400) + x2)) 14 1) (bcv (iu iv 24 8 ((x1 * 400) + x2))) x1 x2 a1) → ((0 ≤ ((x1 * 400) + x2) ∧ ((x1 * 400) + x2) < (800 : Nat)) ∧ ((-2147483648 ≤ (x2 + 1) ∧ (x2 + 1) ≤ 2147483647) ∧ ((0 ≤ x1 ∧ x1 < (2 : Nat)) ∧ ((0 ≤ (iu (iu (iu iv 24 8 ((x1 * 400) + x2)) 26 (((x1 * 400) + x2).toNat) a1) 29 ((x1).toNat) (x2 + 1)) 24 6 ∧ (iu (iu (iu iv 24 8 ((x1 * 400) + x2)) 26 (((x1 * 400) + x2).toNat) a1) 29 ((x1).toNat) (x2 + 1)) 24 6 < 800) ∧ ((0 ≤ (iu (iu (iu iv 24 8 ((x1 * 400) + x2)) 26 (((x1 * 400) + x2).toNat) a1) 29 ((x1).toNat) (x2 + 1)) 24 7 ∧ (iu (iu (iu iv 24 8 ((x1 * 400) + x2)) 26 (((x1 * 400) + x2).toNat) a1) 29 ((x1).toNat) (x2 + 1)) 24 7 < 800) ∧ ((0 ≤ ((x1 * 400) + x2) ∧ ((x1 * 400) + x2) < 800) ∧ (Z G mX0_addNewest (d + 4) 0 0 45 [vr (some 24), vu, vu, vi 0, vu] [] (mkC (enq (iu (iu (iu iv 24 8 ((x1 * 400) + x2)) 26 (((x1 * 400) + x2).toNat) a1) 29 ((x1).toNat) (x2 + 1)) ((x1 * 400) + x2)) rv) K)))))))))))) : Z G mX0_addNewest (d + 4) 0 0 0 [vr (some 24), vi x1, vi x2, vu, vu] [] (mkC iv rv) K := (Z_aload_n (dX0_addNewest 0) rfl (Z_iload_n (dX0_addNewest 1) rfl (Z_sipush (dX0_addNewest 2) ⟨by decide, by decide⟩ (Z_imul (dX0_addNewest 3) h.1 (Z_iload_n (dX0_addNewest 4) rfl (Z_iadd (dX0_addNewest 5) h.2.1 (Z_putIC (dX0_addNewest 6) lk_X0_82 sC24 rfl (Or.inl rfl) (Z_aload_n (dX0_addNewest 7) rfl (Z_gRC (r := (some 26)) (dX0_addNewest 8) lk_X0_21 sC24 rfl (hR 33) (Z_aload_n (dX0_addNewest 9) rfl (Z_gIC (x := ((x1 * 400) + x2)) (dX0_addNewest 10) lk_X0_82 sC24 (Or.inl rfl) iu_eq (Z_aload_n (dX0_addNewest 11) rfl (Z_iload_n (dX0_addNewest 12) rfl (Z_iload_n (dX0_addNewest 13) rfl (Z_cVC (As := [vi x1, vi x2]) (S := [vi ((x1 * 400) + x2), vr (some 26)]) (dX0_addNewest 14) lk_X0_85 sC24 (by decide) rfl rfl (Nat.le_of_ble_eq_true rfl) (Nat.le_of_ble_eq_true rfl) (C_askedFor hR h.2.2.1 (fun a1 c2 => (Z_iastC (dX0_addNewest 15) sC26 (h.2.2.2 a1 c2).1 (Z_aload_n (dX0_addNewest 16) rfl (Z_gRC (r := (some 29)) (dX0_addNewest 17) lk_X0_32 sC24 rfl (hR 36) (Z_iload_n (dX0_addNewest 18) rfl (Z_iload_n (dX0_addNewest 19) rfl (Z_iconst (dX0_addNewest 20) ⟨by decide, by decide⟩ (Z_iadd (dX0_addNewest 21) (h.2.2.2 a1 c2).2.1 (Z_iastC (dX0_addNewest 22) sC29 (h.2.2.2 a1 c2).2.2.1 (Z_aload_n (dX0_addNewest 23) rfl (Z_aload_n (dX0_addNewest 24) rfl (Z_gIC (x := ((x1 * 400) + x2)) (dX0_addNewest 25) lk_X0_82 sC24 (Or.inl rfl) ((iu_o (by decide)).trans ((iu_o (by decide)).trans iu_eq)) (Z_cVC (As := [vi ((x1 * 400) + x2)]) (S := []) (dX0_addNewest 26) lk_X0_88 sC24 (by decide) rfl rfl (Nat.le_of_ble_eq_true rfl) (Nat.le_of_ble_eq_true rfl) (C_enqueue hR (h.2.2.2 a1 c2).2.2.2.1 (h.2.2.2 a1 c2).2.2.2.2.1 (h.2.2.2 a1 c2).2.2.2.2.2.1 ((Z_iconst (dX0_addNewest 27) ⟨by decide, by decide⟩ (Z_istore_n (dX0_addNewest 28) (Nat.le_of_ble_eq_true rfl) rfl (Z.fg (L' := [vr (some 24), vu, vu, vi 0, vu]) (L := [vr (some 24), vi x1, vi x2, vi 0, vu]) ⟨Or.inl rfl, ⟨Or.inr rfl, ⟨Or.inr rfl, ⟨Or.inl rfl, ⟨Or.inl rfl, trivial⟩⟩⟩⟩⟩ (h.2.2.2 a1 c2).2.2.2.2.2.2))))))))))))))))))))))))))))))))))
set_option maxRecDepth 20000 in
theorem sX0_addNewest_45 {G : ZG} {d : Nat} {iv : Nat → Nat → Int} {K : Option AV → AH → Prop} {rv : Nat → Nat → Option Nat} {x3 : Int} (hR : RC rv) (h : (1000000 ≤ x3 → ((¬ (iv 24 7) = 0 → (K (some (vi 0)) (mkC iv rv))) ∧ ((iv 24 7) = 0 → (K (some (vi 1)) (mkC iv rv))))) ∧ (x3 < 1000000 → (((iv 24 7) ≤ 0 → ((¬ (iv 24 7) = 0 → (K (some (vi 0)) (mkC iv rv))) ∧ ((iv 24 7) = 0 → (K (some (vi 1)) (mkC iv rv))))) ∧ (0 < (iv 24 7) → ((0 ≤ iv 24 6 ∧ iv 24 6 < 800) ∧ ((0 ≤ iv 24 7 ∧ iv 24 7 ≤ 800) ∧ ((0 ≤ iv 27 (iv 24 6).toNat ∧ iv 27 (iv 24 6).toNat < 800) ∧ (Z G mX0_passOn (d + 3) 0 0 0 [vr (some 24), vi ((iv 27 (iv 24 6).toNat).tdiv 400), vi ((iv 27 (iv 24 6).toNat).tmod 400), vu, vu] [] (mkC (deq iv) rv) (fun r A1 => Z G mX0_addNewest (d + 4) 0 0 80 [vr (some 24), vu, vu, vi x3, vi (iv 27 (iv 24 6).toNat)] (r.toList ++ []) A1 K))))))))) : Z G mX0_addNewest (d + 4) 0 0 45 [vr (some 24), vu, vu, vi x3, vu] [] (mkC iv rv) K := (Z_iload_n (dX0_addNewest 29) rfl (Z_ldc (dX0_addNewest 30) lk_X0_92 (Z_icmp_ge (dX0_addNewest 31) rfl (fun c1 => (Z_aload_n (dX0_addNewest 51) rfl (Z_gIC (x := (iv 24 7)) (dX0_addNewest 52) lk_X0_66 sC24 (Or.inl rfl) rfl (Z_if_ne (dX0_addNewest 53) rfl (fun c3 => (Z_iconst (dX0_addNewest 56) ⟨by decide, by decide⟩ (Z_zreturn (dX0_addNewest 57) rfl (Or.inl rfl) ((h.1 c1).1 c3)))) (fun c4 => (Z_iconst (dX0_addNewest 54) ⟨by decide, by decide⟩ (Z_goto (dX0_addNewest 55) rfl (Z_zreturn (dX0_addNewest 57) rfl (Or.inr rfl) ((h.1 c1).2 c4))))))))) (fun c2 => (Z_aload_n (dX0_addNewest 32) rfl (Z_gIC (x := (iv 24 7)) (dX0_addNewest 33) lk_X0_66 sC24 (Or.inl rfl) rfl (Z_if_le (dX0_addNewest 34) rfl (fun c5 => (Z_aload_n (dX0_addNewest 51) rfl (Z_gIC (x := (iv 24 7)) (dX0_addNewest 52) lk_X0_66 sC24 (Or.inl rfl) rfl (Z_if_ne (dX0_addNewest 53) rfl (fun c7 => (Z_iconst (dX0_addNewest 56) ⟨by decide, by decide⟩ (Z_zreturn (dX0_addNewest 57) rfl (Or.inl rfl) (((h.2 c2).1 c5).1 c7)))) (fun c8 => (Z_iconst (dX0_addNewest 54) ⟨by decide, by decide⟩ (Z_goto (dX0_addNewest 55) rfl (Z_zreturn (dX0_addNewest 57) rfl (Or.inr rfl) (((h.2 c2).1 c5).2 c8))))))))) (fun c6 => (Z_aload_n (dX0_addNewest 35) rfl (Z_cVC (As := []) (S := []) (dX0_addNewest 36) lk_X0_93 sC24 (by decide) rfl rfl (Nat.le_of_ble_eq_true rfl) (Nat.le_of_ble_eq_true rfl) (C_dequeue hR ((h.2 c2).2 c6).1 ((h.2 c2).2 c6).2.1 ((h.2 c2).2 c6).2.2.1 ((Z_istore (dX0_addNewest 37) (Nat.le_of_ble_eq_true rfl) rfl (Z_aload_n (dX0_addNewest 38) rfl (Z_iload (dX0_addNewest 39) rfl (Z_sipush (dX0_addNewest 40) ⟨by decide, by decide⟩ (Z_idiv (dX0_addNewest 41) (by decide) (Z_iload (dX0_addNewest 42) rfl (Z_sipush (dX0_addNewest 43) ⟨by decide, by decide⟩ (Z_irem (dX0_addNewest 44) (by decide) (Z_cVC (As := [vi ((iv 27 (iv 24 6).toNat).tdiv 400), vi ((iv 27 (iv 24 6).toNat).tmod 400)]) (S := []) (dX0_addNewest 45) lk_X0_97 sC24 (by decide) rfl rfl (Nat.le_of_ble_eq_true rfl) (Nat.le_of_ble_eq_true rfl) ((h.2 c2).2 c6).2.2.2)))))))))))))))))))))
set_option maxRecDepth 20000 in
theorem sX0_addNewest_80 {G : ZG} {d : Nat} {iv : Nat → Nat → Int} {K : Option AV → AH → Prop} {rv : Nat → Nat → Option Nat} {x3 y0 : Int} (hR : RC rv) (h : (¬ y0 = 0 → ((-2147483648 ≤ (x3 + 1) ∧ (x3 + 1) ≤ 2147483647) ∧ (Z G mX0_addNewest (d + 4) 0 0 45 [vr (some 24), vu, vu, vi (x3 + 1), vu] [] (mkC iv rv) K))) ∧ (y0 = 0 → (K (some (vi 0)) (mkC iv rv)))) : Z G mX0_addNewest (d + 4) 0 0 80 [vr (some 24), vu, vu, vi x3, vu] [vi y0] (mkC iv rv) K := (Z_if_ne (dX0_addNewest 46) rfl (fun c1 => (Z_iinc (dX0_addNewest 49) rfl (Nat.le_of_ble_eq_true rfl) (h.1 c1).1 rfl (Z_goto (dX0_addNewest 50) rfl (h.1 c1).2))) (fun c2 => (Z_iconst (dX0_addNewest 47) ⟨by decide, by decide⟩ (Z_zreturn (dX0_addNewest 48) rfl (Or.inl rfl) (h.2 c2)))))

