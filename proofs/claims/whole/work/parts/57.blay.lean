/-! ===== laying both rows ===== -/
def bG (iv v : Nat → Nat → Int) : Prop := ∀ i j, i ≠ 26 → i ≠ 27 → i ≠ 28 → i ≠ 29 → ¬ (i = 24 ∧ (j = 6 ∨ j = 7 ∨ j = 8)) → v i j = iv i j
def bS (iv v : Nat → Nat → Int) (k0 k1 : Int) : Prop := bG iv v ∧ (v 29 0 = k0 ∧ v 29 1 = k1) ∧ qI v ∧ v 24 7 = 0 ∧ LstB k0 k1 (bcl iv) (iv 14 0) (iv 14 1) (bcv v) ∧ ∀ r p, inK k0 k1 r p → 0 ≤ bcv v r p ∧ bcv v r p ≤ 200 * (k0 + k1)
theorem bG_l {iv v : Nat → Nat → Int} (f : bG iv v) : v 14 = iv 14 ∧ bcl v = bcl iv := by
  refine ⟨funext fun j => f 14 j (by decide) (by decide) (by decide) (by decide) (by omega), ?_⟩
  unfold bcl
  funext r p
  have : rwA r = 16 ∨ rwA r = 20 := by unfold rwA; split <;> simp
  rcases this with e | e <;> rw [e] <;> exact f _ _ (by decide) (by decide) (by decide) (by decide) (by omega)
theorem C_addNewest {G : ZG} {d : Nat} {iv v : Nat → Nat → Int} {K : Option AV → AH → Prop} {rv : Nat → Nat → Option Nat} {k0 k1 n0 n1 x1 x2 : Int} (hR : RC rv) (h : bS iv v k0 k1) (hx : nxt k0 k1 x1 x2) (hn : n0 ≤ 400 ∧ n1 ≤ 400) (hc : cOk n0 n1 (bcl iv) (iv 14 0) (iv 14 1)) (hz : inK n0 n1 x1 x2) (hk : k0 ≤ n0 ∧ k1 ≤ n1) (kt : ∀ v', bS iv v' (kp0 k0 x1) (kp1 k1 x1) → K (some (vi 1)) (mkC v' rv)) (kf : ∀ v', bG iv v' → (¬ ∃ V, SolB (kp0 k0 x1) (kp1 k1 x1) (bcl iv) (iv 14 0) (iv 14 1) V) → K (some (vi 0)) (mkC v' rv)) : Z G mX0_addNewest (d + 4) 0 0 0 [vr (some 24), vi x1, vi x2, vu, vu] [] (mkC v rv) K := by
  obtain ⟨f, ⟨e0, e1⟩, q, w0, hL, hb⟩ := h
  obtain ⟨r14, rcl⟩ := bG_l f
  have b1 : x1 = 0 ∨ x1 = 1 := by unfold nxt at hx; omega
  have zr : 0 ≤ x2 ∧ x2 < 400 := by unfold inK at hz; omega
  have kb : kp0 k0 x1 ≤ n0 ∧ kp1 k1 x1 ≤ n1 := by
    unfold kp0 kp1; unfold nxt at hx; unfold inK at hz
    rcases b1 with e | e <;> subst e
    · rw [if_pos rfl, if_pos rfl]; omega
    · rw [if_neg (by decide), if_neg (by decide)]; omega
  have k00 : 0 ≤ k0 ∧ 0 ≤ k1 := by unfold nxt at hx; omega
  have ks : k0 + k1 ≤ 799 := by unfold nxt at hx; unfold inK at hz; omega
  have hc' : cOk (kp0 k0 x1) (kp1 k1 x1) (bcl iv) (iv 14 0) (iv 14 1) := ⟨hc.1, hc.2.1, fun r p a => hc.2.2 r p (by unfold inK at *; omega)⟩
  apply sX0_addNewest_0 hR
  rw [Int.mul_comm x1 400]
  have u24 : ∀ i, i ≠ 24 → iu v 24 8 (400 * x1 + x2) i = v i := fun i a => iu_row a
  have ecl : bcl (iu v 24 8 (400 * x1 + x2)) = bcl iv := by
    rw [← rcl]; unfold bcl; funext r p
    have : rwA r = 16 ∨ rwA r = 20 := by unfold rwA; split <;> simp
    rcases this with e | e <;> rw [e] <;> rw [u24 _ (by decide)]
  have ecv : bcv (iu v 24 8 (400 * x1 + x2)) = bcv v := by unfold bcv; rw [u24 26 (by decide)]
  rw [u24 29 (by decide), u24 14 (by decide), ecl, ecv, r14, e0, e1]
  refine ⟨by omega, by omega, ?_, fun A hA => ?_⟩
  · unfold aOk bK
    rw [u24 29 (by decide), u24 14 (by decide), ecl, ecv, r14, e0, e1]
    refine ⟨hx, zr.2, by omega, hc', fun s p a => ?_⟩
    have := hb s p a
    omega
  obtain ⟨rA, hA⟩ := hA
  generalize hw : iu (iu (iu v 24 8 (400 * x1 + x2)) 26 (400 * x1 + x2).toNat A) 29 x1.toNat (x2 + 1) = w
  have zn : (400 * x1 + x2) / 400 = x1 ∧ (400 * x1 + x2) % 400 = x2 := by omega
  have w8 : w 24 8 = 400 * x1 + x2 := by rw [← hw, iu_o (by decide), iu_o (by decide)]; exact iu_eq
  have w6 : w 24 6 = v 24 6 := by rw [← hw, iu_o (by decide), iu_o (by decide), iu_k (by decide)]
  have w7 : w 24 7 = v 24 7 := by rw [← hw, iu_o (by decide), iu_o (by decide), iu_k (by decide)]
  have wr : ∀ i, i ≠ 24 → i ≠ 26 → i ≠ 29 → w i = v i := fun i a b c => by rw [← hw, iu_row c, iu_row b, iu_row a]
  have w14 : w 14 = iv 14 := by rw [wr 14 (by decide) (by decide) (by decide), r14]
  have wcl : bcl w = bcl iv := by
    rw [← rcl]; unfold bcl; funext r p
    have : rwA r = 16 ∨ rwA r = 20 := by unfold rwA; split <;> simp
    rcases this with e | e <;> rw [e] <;> rw [wr _ (by decide) (by decide) (by decide)]
  have w290 : w 29 0 = kp0 k0 x1 ∧ w 29 1 = kp1 k1 x1 := by
    rw [← hw]
    unfold kp0 kp1
    unfold nxt at hx
    rcases b1 with e | e <;> subst e
    · rw [if_pos rfl, if_pos rfl, show (0 : Int).toNat = 0 from rfl, iu_eq, iu_k (by decide), iu_o (by decide), iu_o (by decide)]; omega
    · rw [if_neg (by decide), if_neg (by decide), show (1 : Int).toNat = 1 from rfl, iu_eq, iu_k (by decide), iu_o (by decide), iu_o (by decide)]; omega
  have w26 : ∀ j, w 26 j = if j = (400 * x1 + x2).toNat then A else v 26 j := fun j => by
    rw [← hw, iu_o (by decide), iu_i, iu_o (by decide)]
  have wK : ∀ s p, bK w s p ↔ (inK k0 k1 s p ∨ (s = x1 ∧ p = x2)) := fun s p => by
    unfold bK; rw [w290.1, w290.2]; exact inK_n hx
  have wSB : ∀ V, SB w V ↔ SolB (kp0 k0 x1) (kp1 k1 x1) (bcl iv) (iv 14 0) (iv 14 1) V := fun V => by
    unfold SB; rw [w290.1, w290.2, wcl, w14]
  have wcv : ∀ s p, bK w s p → bcv w s p = if s = x1 ∧ p = x2 then A else bcv v s p := by
    intro s p a
    have nb : 0 ≤ 400 * s + p ∧ (s = 0 ∨ s = 1) ∧ 0 ≤ p ∧ p < 400 := by
      rw [wK] at a; unfold inK at a; omega
    unfold bcv
    rw [w26]
    by_cases c : s = x1 ∧ p = x2
    · rw [if_pos c, if_pos (by rw [c.1, c.2])]
    · rw [if_neg c, if_neg (by omega)]
  have nzK : ∀ s p, inK k0 k1 s p → ¬ (s = x1 ∧ p = x2) := fun s p a c => by
    unfold inK at a; unfold nxt at hx; omega
  have Aub : A ≤ 200 * (k0 + k1) + 100 := by
    rcases hA.2.2 with e | ⟨s, p, x, a, ed, eA⟩
    · omega
    · have wb := edg_w hc (show inK n0 n1 s p by unfold inK at *; omega) hz ed
      have := hb s p a
      omega
  have hwk : wOk w := by
    refine ⟨by rw [w290.1, w290.2]; omega, by rw [w290.1, w290.2, wcl, w14]; exact hc', by rw [w8]; omega, fun V hV => ?_⟩
    rw [wSB] at hV
    obtain ⟨W, hW, eW, bW⟩ := wEx hc hk hz hx hL hA hV
    refine ⟨W, (wSB W).mpr hW, ?_, fun s p a => ?_⟩
    · rw [w8, zn.1, zn.2, w26, if_pos rfl]; exact eW
    · rw [wcv s p a]
      rcases (wK s p).mp a with c | c
      · rw [if_neg (nzK s p c)]; exact (bW s p c).2
      · rw [if_pos c, c.1, c.2, eW]; omega
  have qw : qI w := by
    unfold qI qAt at *
    rw [w6, w7, wr 27 (by decide) (by decide) (by decide), wr 28 (by decide) (by decide) (by decide)]; exact q
  have nw : ∀ u : Int, 0 ≤ u → u < 800 → v 28 u.toNat = 0 := by
    intro u a b
    apply Classical.byContradiction
    intro n
    obtain ⟨i, i0, i1, -⟩ := q.2.2.2.2.2 u a b n
    omega
  have w28 : w 28 = v 28 := wr 28 (by decide) (by decide) (by decide)
  have y28 : w 28 (400 * x1 + x2).toNat = 0 := by rw [w28]; exact nw _ (by omega) (by omega)
  refine ⟨by omega, by omega, by omega, by rw [w6]; exact q.1, by rw [w7]; omega, by omega, ?_⟩
  obtain ⟨e6, e7, e28, e27, er⟩ := enq_e (v := w) (n := 400 * x1 + x2)
  have e26 : enq w (400 * x1 + x2) 26 = w 26 := er 26 (by decide) (by decide) (by decide)
  have ecv2 : bcv (enq w (400 * x1 + x2)) = bcv w := by unfold bcv; rw [e26]
  have frame : ∀ v', bF w v' → bG iv v' := by
    intro v' f' i j a1 a2 a3 a4 a5
    rw [f' i j a1 a2 a3 (by omega), ← f i j a1 a2 a3 a4 a5, ← hw, iu_o a4, iu_o a1]
    by_cases c : i = 24
    · subst c; rw [iu_k (by omega)]
    · rw [iu_o c]
  refine C_addLoop hR hwk ⟨?_, qI_enq qw ⟨by omega, by omega⟩ y28, fun u a b c => ?_, fun V hV s p a => ?_, fun s p s' p' x a b e => ?_, fun u _ _ _ => by rw [e26], ?_, fun s p a => ?_, by rw [e26]⟩ (fun v' f' q' z' t' c' => kt v' ⟨frame v' f', ?_, q', z', ⟨?_, fun V hV s p a => ?_⟩, fun s p a => ?_⟩) (fun v' f' n => kf v' (frame v' f') (fun ⟨V, hV⟩ => n ⟨V, (wSB V).mpr hV⟩))
  · intro i j a1 a2 a3 a4
    by_cases c : i = 24
    · subst c
      unfold enq
      rw [iu_k (by omega), iu_o (by decide), iu_o (by decide)]
    · rw [er i c a2 a3]
  · rw [e28] at c
    split at c
    · rename_i y
      rw [show u = 400 * x1 + x2 by omega, zn.1, zn.2, wK]; exact Or.inr ⟨rfl, rfl⟩
    · rw [w28] at c; exact absurd (nw u a b) c
  · rw [ecv2, wcv s p a]
    rw [wSB] at hV
    have mI : ∀ s q, inK k0 k1 s q → inK (kp0 k0 x1) (kp1 k1 x1) s q := fun s q a => (inK_n hx).mpr (Or.inl a)
    have xV : ∀ s q, inK k0 k1 s q → bcv v s q ≤ V s q := fun s q a => hL.2 V ⟨fun s q b => hV.1 s q (mI s q b), fun s q s' q' w b b' e => hV.2 s q s' q' w (mI _ _ b) (mI _ _ b') e⟩ s q a
    rcases (wK s p).mp a with c | c
    · rw [if_neg (nzK s p c)]; exact xV s p c
    · rw [if_pos c, c.1, c.2]
      have mZ : inK (kp0 k0 x1) (kp1 k1 x1) x1 x2 := (inK_n hx).mpr (Or.inr ⟨rfl, rfl⟩)
      rcases hA.2.2 with y | ⟨s', q', x, iK, ed, eA⟩
      · have := hV.1 x1 x2 mZ; omega
      · have a1 := hV.2 s' q' x1 x2 x (mI _ _ iK) mZ ed
        have a2 := xV s' q' iK
        omega
  · rw [ecv2, wcv s p a, wcv s' p' b]
    unfold bE at e
    rw [wcl, w14] at e
    rcases (wK s p).mp a with c | c
    · rw [if_neg (nzK s p c)]
      left
      rcases (wK s' p').mp b with c' | c'
      · rw [if_neg (nzK s' p' c')]; exact hL.1.2 s p s' p' x c c' e
      · rw [if_pos c']
        rw [c'.1, c'.2] at e
        exact hA.2.1 s p x c e
    · right; left
      rw [e28, if_pos (by rw [c.1, c.2])]; decide
  · rw [e26, e7, w7]; omega
  · rw [ecv2, wcv s p a]
    rcases (wK s p).mp a with c | c
    · rw [if_neg (nzK s p c)]; have := hb s p c; omega
    · rw [if_pos c]; omega
  · rw [f' 29 0 (by decide) (by decide) (by decide) (by omega), f' 29 1 (by decide) (by decide) (by decide) (by omega)]; exact w290
  · exact (wSB _).mp c'.1
  · exact c'.2.1 V ((wSB V).mpr hV) s p (by unfold bK; rw [w290.1, w290.2]; exact a)
  · have a' : bK w s p := by unfold bK; rw [w290.1, w290.2]; exact a
    have := c'.2.2 s p a'
    rw [wcv s p a'] at this
    have ek : kp0 k0 x1 + kp1 k1 x1 = k0 + k1 + 1 := by
      unfold kp0 kp1
      by_cases z : x1 = 0
      · rw [if_pos z, if_pos z]; omega
      · rw [if_neg z, if_neg z]; omega
    rw [ek]
    rcases (wK s p).mp a' with c | c
    · rw [if_neg (nzK s p c)] at this; have := hb s p c; omega
    · rw [w8, w26, if_pos rfl] at t'
      have tt : bcv v' s p = A := by rw [c.1, c.2]; exact t'
      omega
set_option maxRecDepth 20000 in
theorem sX0_layOut_0 {G : ZG} {d : Nat} {iv : Nat → Nat → Int} {K : Option AV → AH → Prop} {rv : Nat → Nat → Option Nat} (hR : RC rv) (h : Z G mX0_layOut (d + 5) 0 0 55 [vr (some 24), vi (max ((ifill (iu (iu (iu (iu iv 29 0 0) 29 1 0) 24 6 0) 24 7 0) 28 0 800 0) 16 4) ((ifill (iu (iu (iu (iu iv 29 0 0) 29 1 0) 24 6 0) 24 7 0) 28 0 800 0) 20 4)), vi 0, vu] [] (mkC (ifill (iu (iu (iu (iu iv 29 0 0) 29 1 0) 24 6 0) 24 7 0) 28 0 800 0) rv) K) : Z G mX0_layOut (d + 5) 0 0 0 [vr (some 24), vu, vu, vu] [] (mkC iv rv) K := (Z_aload_n (dX0_layOut 0) rfl (Z_gRC (r := (some 29)) (dX0_layOut 1) lk_X0_32 sC24 rfl (hR 36) (Z_iconst (dX0_layOut 2) ⟨by decide, by decide⟩ (Z_iconst (dX0_layOut 3) ⟨by decide, by decide⟩ (Z_iastC (dX0_layOut 4) sC29 ⟨by decide, by decide⟩ (Z_aload_n (dX0_layOut 5) rfl (Z_gRC (r := (some 29)) (dX0_layOut 6) lk_X0_32 sC24 rfl (hR 36) (Z_iconst (dX0_layOut 7) ⟨by decide, by decide⟩ (Z_iconst (dX0_layOut 8) ⟨by decide, by decide⟩ (Z_iastC (dX0_layOut 9) sC29 ⟨by decide, by decide⟩ (Z_aload_n (dX0_layOut 10) rfl (Z_iconst (dX0_layOut 11) ⟨by decide, by decide⟩ (Z_putIC (dX0_layOut 12) lk_X0_63 sC24 rfl (Or.inl rfl) (Z_aload_n (dX0_layOut 13) rfl (Z_iconst (dX0_layOut 14) ⟨by decide, by decide⟩ (Z_putIC (dX0_layOut 15) lk_X0_66 sC24 rfl (Or.inl rfl) (Z_aload_n (dX0_layOut 16) rfl (Z_gRC (r := (some 28)) (dX0_layOut 17) lk_X0_28 sC24 rfl (hR 35) (Z_cN (As := [vr (some 28)]) (S := []) (dX0_layOut 18) lk_X0_69 rfl (Nat.le_of_ble_eq_true rfl) (Nat.le_of_ble_eq_true rfl) (C_clear hR sC28 (by decide) ((Z_aload_n (dX0_layOut 19) rfl (Z_gRC (r := (some 25)) (dX0_layOut 20) lk_X0_11 sC24 rfl (hR 31) (Z_iconst (dX0_layOut 21) ⟨by decide, by decide⟩ (Z_alC (r := (some 16)) (dX0_layOut 22) sC25 (Or.inr (Or.inl rfl)) ⟨by decide, by decide⟩ (hR 37) (Z_gIC (x := ((ifill (iu (iu (iu (iu iv 29 0 0) 29 1 0) 24 6 0) 24 7 0) 28 0 800 0) 16 4)) (dX0_layOut 23) lk_X0_39 (Sd_sh (Or.inl rfl)) (Or.inl rfl) rfl (Z_aload_n (dX0_layOut 24) rfl (Z_gRC (r := (some 25)) (dX0_layOut 25) lk_X0_11 sC24 rfl (hR 31) (Z_iconst (dX0_layOut 26) ⟨by decide, by decide⟩ (Z_alC (r := (some 20)) (dX0_layOut 27) sC25 (Or.inr (Or.inl rfl)) ⟨by decide, by decide⟩ (hR 38) (Z_gIC (x := ((ifill (iu (iu (iu (iu iv 29 0 0) 29 1 0) 24 6 0) 24 7 0) 28 0 800 0) 20 4)) (dX0_layOut 28) lk_X0_39 (Sd_sh (Or.inr (Or.inl rfl))) (Or.inl rfl) rfl (Z_max (dX0_layOut 29) lk_X0_73 mt_max_s mt_ini mt_max_c (Nat.le_of_ble_eq_true rfl) (Z_istore_n (dX0_layOut 30) (Nat.le_of_ble_eq_true rfl) rfl (Z_iconst (dX0_layOut 31) ⟨by decide, by decide⟩ (Z_istore_n (dX0_layOut 32) (Nat.le_of_ble_eq_true rfl) rfl h)))))))))))))))))))))))))))))))))))
set_option maxRecDepth 20000 in
theorem sX0_layOut_55 {G : ZG} {d : Nat} {iv : Nat → Nat → Int} {K : Option AV → AH → Prop} {rv : Nat → Nat → Option Nat} {x1 x2 : Int} (hR : RC rv) (h : (x1 ≤ x2 → (K (some (vi 1)) (mkC iv rv))) ∧ (x2 < x1 → (Z G mX0_layOut (d + 5) 0 0 62 [vr (some 24), vi x1, vi x2, vi 0] [] (mkC iv rv) K))) : Z G mX0_layOut (d + 5) 0 0 55 [vr (some 24), vi x1, vi x2, vu] [] (mkC iv rv) K := (Z_iload_n (dX0_layOut 33) rfl (Z_iload_n (dX0_layOut 34) rfl (Z_icmp_ge (dX0_layOut 35) rfl (fun c1 => (Z_iconst (dX0_layOut 59) ⟨by decide, by decide⟩ (Z_zreturn (dX0_layOut 60) rfl (Or.inr rfl) (h.1 c1)))) (fun c2 => (Z_iconst (dX0_layOut 36) ⟨by decide, by decide⟩ (Z_istore_n (dX0_layOut 37) (Nat.le_of_ble_eq_true rfl) rfl (h.2 c2)))))))
set_option maxRecDepth 20000 in
theorem sX0_layOut_62 {G : ZG} {d : Nat} {iv : Nat → Nat → Int} {K : Option AV → AH → Prop} {rv : Nat → Nat → Option Nat} {x1 x2 x3 : Int} (hR : RC rv) (h : (2 ≤ x3 → ((-2147483648 ≤ (x2 + 1) ∧ (x2 + 1) ≤ 2147483647) ∧ (Z G mX0_layOut (d + 5) 0 0 55 [vr (some 24), vi x1, vi (x2 + 1), vu] [] (mkC iv rv) K))) ∧ (x3 < 2 → ((0 ≤ x3 ∧ x3 < (2 : Nat)) ∧ (((iv (rwA x3) 4) ≤ x2 → ((-2147483648 ≤ (x3 + 1) ∧ (x3 + 1) ≤ 2147483647) ∧ (Z G mX0_layOut (d + 5) 0 0 62 [vr (some 24), vi x1, vi x2, vi (x3 + 1)] [] (mkC iv rv) K))) ∧ (x2 < (iv (rwA x3) 4) → (Z G mX0_addNewest (d + 4) 0 0 0 [vr (some 24), vi x3, vi x2, vu, vu] [] (mkC iv rv) (fun r A1 => Z G mX0_layOut (d + 5) 0 0 86 [vr (some 24), vi x1, vi x2, vi x3] (r.toList ++ []) A1 K))))))) : Z G mX0_layOut (d + 5) 0 0 62 [vr (some 24), vi x1, vi x2, vi x3] [] (mkC iv rv) K := (Z_iload_n (dX0_layOut 38) rfl (Z_iconst (dX0_layOut 39) ⟨by decide, by decide⟩ (Z_icmp_ge (dX0_layOut 40) rfl (fun c1 => (Z_iinc (dX0_layOut 57) rfl (Nat.le_of_ble_eq_true rfl) (h.1 c1).1 rfl (Z_goto (dX0_layOut 58) rfl (Z.fg (L' := [vr (some 24), vi x1, vi (x2 + 1), vu]) (L := [vr (some 24), vi x1, vi (x2 + 1), vi x3]) ⟨Or.inl rfl, ⟨Or.inl rfl, ⟨Or.inl rfl, ⟨Or.inr rfl, trivial⟩⟩⟩⟩ (h.1 c1).2)))) (fun c2 => (Z_iload_n (dX0_layOut 41) rfl (Z_aload_n (dX0_layOut 42) rfl (Z_gRC (r := (some 25)) (dX0_layOut 43) lk_X0_11 sC24 rfl (hR 31) (Z_iload_n (dX0_layOut 44) rfl (Z_alC (r := (some (rwA x3))) (dX0_layOut 45) sC25 (Or.inr (Or.inl rfl)) (h.2 c2).1 (rwA_r hR (h.2 c2).1) (Z_gIC (x := (iv (rwA x3) 4)) (dX0_layOut 46) lk_X0_39 (Sd_sh (rwA_is x3)) (Or.inl rfl) rfl (Z_icmp_ge (dX0_layOut 47) rfl (fun c3 => (Z_iinc (dX0_layOut 55) rfl (Nat.le_of_ble_eq_true rfl) ((h.2 c2).2.1 c3).1 rfl (Z_goto (dX0_layOut 56) rfl ((h.2 c2).2.1 c3).2))) (fun c4 => (Z_aload_n (dX0_layOut 48) rfl (Z_iload_n (dX0_layOut 49) rfl (Z_iload_n (dX0_layOut 50) rfl (Z_cVC (As := [vi x3, vi x2]) (S := []) (dX0_layOut 51) lk_X0_78 sC24 (by decide) rfl rfl (Nat.le_of_ble_eq_true rfl) (Nat.le_of_ble_eq_true rfl) ((h.2 c2).2.2 c4)))))))))))))))))
set_option maxRecDepth 20000 in
theorem sX0_layOut_86 {G : ZG} {d : Nat} {iv : Nat → Nat → Int} {K : Option AV → AH → Prop} {rv : Nat → Nat → Option Nat} {x1 x2 x3 y0 : Int} (hR : RC rv) (h : (¬ y0 = 0 → ((-2147483648 ≤ (x3 + 1) ∧ (x3 + 1) ≤ 2147483647) ∧ (Z G mX0_layOut (d + 5) 0 0 62 [vr (some 24), vi x1, vi x2, vi (x3 + 1)] [] (mkC iv rv) K))) ∧ (y0 = 0 → (K (some (vi 0)) (mkC iv rv)))) : Z G mX0_layOut (d + 5) 0 0 86 [vr (some 24), vi x1, vi x2, vi x3] [vi y0] (mkC iv rv) K := (Z_if_ne (dX0_layOut 52) rfl (fun c1 => (Z_iinc (dX0_layOut 55) rfl (Nat.le_of_ble_eq_true rfl) (h.1 c1).1 rfl (Z_goto (dX0_layOut 56) rfl (h.1 c1).2))) (fun c2 => (Z_iconst (dX0_layOut 53) ⟨by decide, by decide⟩ (Z_zreturn (dX0_layOut 54) rfl (Or.inl rfl) (h.2 c2)))))

