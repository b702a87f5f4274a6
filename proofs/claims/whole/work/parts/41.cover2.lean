/-! ===== cover ===== -/
theorem C_fewestI {G : ZG} {d : Nat} {iv : Nat → Nat → Int} {K : Option AV → AH → Prop} {rv : Nat → Nat → Option Nat} {x1 x2 x3 : Int} (hR : RC rv) (h : lnOk iv) (h1 : x1 = zshl 1 (iv 32 3) - 1) (h2 : x2 = 0) (h3 : 0 ≤ x3 ∧ x3 ≤ 16) (k : K (some (vi (min x3 (cvT (LQ (iv 33) (iv 34) (iv 32 3)) (x1).toNat)))) (mkC iv rv)) : Z G mX1_fewest (d + 17) 0 0 0 [vr (some 35), vi x1, vi x2, vi x3, vu, vu, vu, vu] [] (mkC iv rv) K := by
  have n16 := h.1.1
  have p := Nat.two_pow_pos (iv 32 3).toNat
  rw [zshl_i n16] at h1
  obtain ⟨x, e⟩ : ∃ x : Nat, x1 = x := ⟨x1.toNat, by omega⟩
  subst e h2
  rw [Int.toNat_natCast] at k
  exact C_fewest (d := d) hR h 16 x 0 x3 K (by omega) (pop_le _ _) (by omega) (by omega) (by rw [Int.zero_add]; exact k)
set_option maxRecDepth 20000 in
theorem sX1_fewestLines_0 {G : ZG} {d : Nat} {iv : Nat → Nat → Int} {K : Option AV → AH → Prop} {rv : Nat → Nat → Option Nat} (hR : RC rv) (h : Z G mX1_fewestLines (d + 18) 0 0 2 [vr (some 32), vi 0, vu] [] (mkC iv rv) K) : Z G mX1_fewestLines (d + 18) 0 0 0 [vr (some 32), vu, vu] [] (mkC iv rv) K := (Z_iconst (dX1_fewestLines 0) ⟨by decide, by decide⟩ (Z_istore_n (dX1_fewestLines 1) (Nat.le_of_ble_eq_true rfl) rfl h))
set_option maxRecDepth 20000 in
theorem sX1_fewestLines_2 {G : ZG} {d : Nat} {iv : Nat → Nat → Int} {K : Option AV → AH → Prop} {rv : Nat → Nat → Option Nat} {x1 : Int} (hR : RC rv) (h : ((iv 32 3) ≤ x1 → ((-2147483648 ≤ ((zshl 1 (iv 32 3)) - 1) ∧ ((zshl 1 (iv 32 3)) - 1) ≤ 2147483647) ∧ ((lnOk iv) ∧ ((((zshl 1 (iv 32 3)) - 1) = zshl 1 (iv 32 3) - 1) ∧ (((0 : Int) = 0) ∧ ((0 ≤ (iv 32 3) ∧ (iv 32 3) ≤ 16) ∧ (K (some (vi (min (iv 32 3) (cvT (LQ (iv 33) (iv 34) (iv 32 3)) (((zshl 1 (iv 32 3)) - 1)).toNat)))) (mkC iv rv)))))))) ∧ (x1 < (iv 32 3) → (Z G mX1_fewestLines (d + 18) 0 0 12 [vr (some 32), vi x1, vi 0] [] (mkC iv rv) K))) : Z G mX1_fewestLines (d + 18) 0 0 2 [vr (some 32), vi x1, vu] [] (mkC iv rv) K := (Z_iload_n (dX1_fewestLines 2) rfl (Z_aload_n (dX1_fewestLines 3) rfl (Z_gIC (x := (iv 32 3)) (dX1_fewestLines 4) lk_X1_21 sC32 (Or.inl rfl) rfl (Z_icmp_ge (dX1_fewestLines 5) rfl (fun c1 => (Z_aload_n (dX1_fewestLines 38) rfl (Z_gRC (r := (some 35)) (dX1_fewestLines 39) lk_X1_18 sC32 rfl (hR 42) (Z_iconst (dX1_fewestLines 40) ⟨by decide, by decide⟩ (Z_aload_n (dX1_fewestLines 41) rfl (Z_gIC (x := (iv 32 3)) (dX1_fewestLines 42) lk_X1_21 sC32 (Or.inl rfl) rfl (Z_ishl (dX1_fewestLines 43) (Z_iconst (dX1_fewestLines 44) ⟨by decide, by decide⟩ (Z_isub (dX1_fewestLines 45) (h.1 c1).1 (Z_iconst (dX1_fewestLines 46) ⟨by decide, by decide⟩ (Z_aload_n (dX1_fewestLines 47) rfl (Z_gIC (x := (iv 32 3)) (dX1_fewestLines 48) lk_X1_21 sC32 (Or.inl rfl) rfl (Z_cS (As := [vr (some 35), vi ((zshl 1 (iv 32 3)) - 1), vi 0, vi (iv 32 3)]) (S := []) (dX1_fewestLines 49) lk_X1_55 rfl (Nat.le_of_ble_eq_true rfl) (Nat.le_of_ble_eq_true rfl) (C_fewestI hR (h.1 c1).2.1 (h.1 c1).2.2.1 (h.1 c1).2.2.2.1 (h.1 c1).2.2.2.2.1 ((Z_ireturn (dX1_fewestLines 50) rfl (h.1 c1).2.2.2.2.2)))))))))))))))) (fun c2 => (Z_iconst (dX1_fewestLines 6) ⟨by decide, by decide⟩ (Z_istore_n (dX1_fewestLines 7) (Nat.le_of_ble_eq_true rfl) rfl (h.2 c2))))))))
set_option maxRecDepth 20000 in
theorem sX1_fewestLines_12 {G : ZG} {d : Nat} {iv : Nat → Nat → Int} {K : Option AV → AH → Prop} {rv : Nat → Nat → Option Nat} {x1 x2 : Int} (hR : RC rv) (h : (3 ≤ x2 → ((-2147483648 ≤ (x1 + 1) ∧ (x1 + 1) ≤ 2147483647) ∧ (Z G mX1_fewestLines (d + 18) 0 0 2 [vr (some 32), vi (x1 + 1), vu] [] (mkC iv rv) K))) ∧ (x2 < 3 → ((-2147483648 ≤ (x1 * 3) ∧ (x1 * 3) ≤ 2147483647) ∧ ((-2147483648 ≤ ((x1 * 3) + x2) ∧ ((x1 * 3) + x2) ≤ 2147483647) ∧ ((-2147483648 ≤ (x2 - 1) ∧ (x2 - 1) ≤ 2147483647) ∧ ((ckU (iv 33) (iv 34) (iv 32 3)) ∧ ((0 ≤ x1 ∧ x1 < iv 32 3) ∧ (((1 : Int) = 1 ∨ (1 : Int) = -1) ∧ ((-1 ≤ (x2 - 1) ∧ (x2 - 1) ≤ 1) ∧ ((-2147483648 ≤ (x2 - 1) ∧ (x2 - 1) ≤ 2147483647) ∧ ((ckU (iv 33) (iv 34) (iv 32 3)) ∧ ((0 ≤ x1 ∧ x1 < iv 32 3) ∧ ((((-1) : Int) = 1 ∨ ((-1) : Int) = -1) ∧ ((-1 ≤ (x2 - 1) ∧ (x2 - 1) ≤ 1) ∧ ((0 ≤ ((x1 * 3) + x2) ∧ ((x1 * 3) + x2) < (48 : Nat)) ∧ ((-2147483648 ≤ (x2 + 1) ∧ (x2 + 1) ≤ 2147483647) ∧ (Z G mX1_fewestLines (d + 18) 0 0 12 [vr (some 32), vi x1, vi (x2 + 1)] [] (mkC (iu iv 35 (((x1 * 3) + x2).toNat) (zor ((wk (iv 33) (iv 34) (iv 32 3) 1 (x2 - 1) 101 (iv 33 (x1).toNat) (iv 34 (x1).toNat) : Nat) : Int) ((wk (iv 33) (iv 34) (iv 32 3) (-1) (x2 - 1) 101 (iv 33 (x1).toNat) (iv 34 (x1).toNat) : Nat) : Int))) rv) K))))))))))))))))) : Z G mX1_fewestLines (d + 18) 0 0 12 [vr (some 32), vi x1, vi x2] [] (mkC iv rv) K := (Z_iload_n (dX1_fewestLines 8) rfl (Z_iconst (dX1_fewestLines 9) ⟨by decide, by decide⟩ (Z_icmp_ge (dX1_fewestLines 10) rfl (fun c1 => (Z_iinc (dX1_fewestLines 36) rfl (Nat.le_of_ble_eq_true rfl) (h.1 c1).1 rfl (Z_goto (dX1_fewestLines 37) rfl (Z.fg (L' := [vr (some 32), vi (x1 + 1), vu]) (L := [vr (some 32), vi (x1 + 1), vi x2]) ⟨Or.inl rfl, ⟨Or.inl rfl, ⟨Or.inr rfl, trivial⟩⟩⟩ (h.1 c1).2)))) (fun c2 => (Z_aload_n (dX1_fewestLines 11) rfl (Z_gRC (r := (some 35)) (dX1_fewestLines 12) lk_X1_18 sC32 rfl (hR 42) (Z_iload_n (dX1_fewestLines 13) rfl (Z_iconst (dX1_fewestLines 14) ⟨by decide, by decide⟩ (Z_imul (dX1_fewestLines 15) (h.2 c2).1 (Z_iload_n (dX1_fewestLines 16) rfl (Z_iadd (dX1_fewestLines 17) (h.2 c2).2.1 (Z_aload_n (dX1_fewestLines 18) rfl (Z_iload_n (dX1_fewestLines 19) rfl (Z_iconst (dX1_fewestLines 20) ⟨by decide, by decide⟩ (Z_iload_n (dX1_fewestLines 21) rfl (Z_iconst (dX1_fewestLines 22) ⟨by decide, by decide⟩ (Z_isub (dX1_fewestLines 23) (h.2 c2).2.2.1 (Z_cVC (As := [vi x1, vi 1, vi (x2 - 1)]) (S := [vi ((x1 * 3) + x2), vr (some 35)]) (dX1_fewestLines 24) lk_X1_28 sC32 (by decide) rfl rfl (Nat.le_of_ble_eq_true rfl) (Nat.le_of_ble_eq_true rfl) (C_walk hR (h.2 c2).2.2.2.1 (h.2 c2).2.2.2.2.1 (h.2 c2).2.2.2.2.2.1 (h.2 c2).2.2.2.2.2.2.1 ((Z_aload_n (dX1_fewestLines 25) rfl (Z_iload_n (dX1_fewestLines 26) rfl (Z_iconst (dX1_fewestLines 27) ⟨by decide, by decide⟩ (Z_iload_n (dX1_fewestLines 28) rfl (Z_iconst (dX1_fewestLines 29) ⟨by decide, by decide⟩ (Z_isub (dX1_fewestLines 30) (h.2 c2).2.2.2.2.2.2.2.1 (Z_cVC (As := [vi x1, vi (-1), vi (x2 - 1)]) (S := [vi ((wk (iv 33) (iv 34) (iv 32 3) 1 (x2 - 1) 101 (iv 33 (x1).toNat) (iv 34 (x1).toNat) : Nat) : Int), vi ((x1 * 3) + x2), vr (some 35)]) (dX1_fewestLines 31) lk_X1_28 sC32 (by decide) rfl rfl (Nat.le_of_ble_eq_true rfl) (Nat.le_of_ble_eq_true rfl) (C_walk hR (h.2 c2).2.2.2.2.2.2.2.2.1 (h.2 c2).2.2.2.2.2.2.2.2.2.1 (h.2 c2).2.2.2.2.2.2.2.2.2.2.1 (h.2 c2).2.2.2.2.2.2.2.2.2.2.2.1 ((Z_ior (dX1_fewestLines 32) (Z_iastC (dX1_fewestLines 33) sC35 (h.2 c2).2.2.2.2.2.2.2.2.2.2.2.2.1 (Z_iinc (dX1_fewestLines 34) rfl (Nat.le_of_ble_eq_true rfl) (h.2 c2).2.2.2.2.2.2.2.2.2.2.2.2.2.1 rfl (Z_goto (dX1_fewestLines 35) rfl (h.2 c2).2.2.2.2.2.2.2.2.2.2.2.2.2.2)))))))))))))))))))))))))))))))))
theorem zshr_n {a k : Nat} (ha : a < 2 ^ 31) (hk : k < 32) : zshr a k = ((a / 2 ^ k : Nat) : Int) := by
  unfold zshr
  have c : ∀ l : Nat, l < 32 → (((Int32.ofInt ((l : Nat) : Int)) &&& 31).toBitVec.smod 32).toNat = l := by decide +kernel
  have e : (Int32.ofInt (a : Int) >>> (Int32.ofInt (k : Int) &&& 31)).toInt = (Int32.ofInt (a : Int)).toInt >>> k := by
    conv => rhs; rw [← c k hk]
    exact BitVec.toInt_sshiftRight ..
  have t : (Int32.ofInt (a : Int)).toInt = (a : Int) := by
    have := nb_ti (x := (Int32.ofInt (a : Int)).toBitVec) (n := a) (by rw [nb_i, BitVec.toNat_ofNat, Nat.mod_eq_of_lt (by omega)]) ha
    exact this
  rw [e, t, Int.shiftRight_eq_div_pow]
  rfl
theorem zbit {a k : Nat} (ha : a < 65536) (hk : k < 16) : zand (zshr a k) 1 = 0 ↔ a.testBit k = false := by
  have l : a / 2 ^ k ≤ a := Nat.div_le_self _ _
  rw [zshr_n (by omega) (by omega), show zand ((a / 2 ^ k : Nat) : Int) 1 = (((a / 2 ^ k) &&& 1 : Nat) : Int) from zand_n (b := 1) (by omega) (by omega), Nat.and_one_is_mod, Nat.testBit_eq_decide_div_mod_eq, decide_eq_false_iff_not]
  omega
theorem cvT_pop {L : Int → Nat} {n : Nat} (h : LOk L n) : ∀ N x, x < N → x < 2 ^ n → cvT L x ≤ (pop 16 x : Int)
  | 0, x, a, _ => by omega
  | N + 1, x, a, hx => by
    by_cases z : x = 0
    · rw [z, cvT_0]; omega
    · have lb := (lob_b z (h.lt hx)).1
      have ln := bit_lt hx lb
      have c := h.cut hx z (s := 0) (by omega) (by omega)
      have e := cvT_le h hx z (s := 0) (by omega) (by omega)
      have ih := cvT_pop h N (sdf x (L (3 * (lob 16 x : Int) + 0))) (by omega) (by omega)
      have n16 := h.1
      have := pop_lt (x := sdf x (L (3 * (lob 16 x : Int) + 0))) (y := x) (c := lob 16 x) (fun i q => by rw [sdf_b (h.lt hx), Bool.and_eq_true] at q; exact q.1) lb (by rw [sdf_b (h.lt hx), lb, h.own _ ln 0 (by omega) (by omega)]; rfl) 16 (by omega)
      omega
def covN (f g : Nat → Int) (n : Int) : Int := cvT (LQ f g n) (2 ^ n.toNat - 1)
theorem covN_r {f g : Nat → Int} {n : Int} (h : ckU f g n) : (0 ≤ covN f g n) ∧ covN f g n ≤ n := by
  have n16 := h.1
  have p := Nat.two_pow_pos n.toNat
  have a := cvT_pop (LQ_ok h) _ (2 ^ n.toNat - 1) (Nat.lt_succ_self _) (by omega)
  have b := pop_up (x := 2 ^ n.toNat - 1) (m := n.toNat) (fun i hi => by rw [Nat.testBit_two_pow_sub_one]; exact decide_eq_false (by omega)) 16 (by omega)
  have c := pop_le n.toNat (2 ^ n.toNat - 1)
  have e := (cvT_r (L := LQ f g n) (2 ^ n.toNat - 1)).1
  unfold covN
  omega
theorem C_fewestLines {G : ZG} {d : Nat} {iv : Nat → Nat → Int} {K : Option AV → AH → Prop} {rv : Nat → Nat → Option Nat} (hR : RC rv) (h : ckU (iv 33) (iv 34) (iv 32 3)) (k : ∀ v : Nat → Nat → Int, (∀ i, i ≠ 35 → v i = iv i) → K (some (vi (covN (iv 33) (iv 34) (iv 32 3)))) (mkC v rv)) : Z G mX1_fewestLines (d + 18) 0 0 0 [vr (some 32), vu, vu] [] (mkC iv rv) K := by
  have n16 := h.1
  have p := Nat.two_pow_pos (iv 32 3).toNat
  have p2 : 2 ^ (iv 32 3).toNat ≤ 65536 := by
    have := Nat.pow_le_pow_right (n := 2) (by decide) (show (iv 32 3).toNat ≤ 16 by omega)
    exact this
  apply sX1_fewestLines_0 hR
  refine lp_up (P := fun c v => Z G mX1_fewestLines (d + 18) 0 0 2 [vr (some 32), vi c, vu] [] (mkC v rv) K) (iv 32 3) (fun c v => 0 ≤ c ∧ (∀ i, i ≠ 35 → v i = iv i) ∧ ∀ i : Int, 0 ≤ i → i < 3 * c → v 35 i.toNat = ((LQ (iv 33) (iv 34) (iv 32 3) i : Nat) : Int)) ?_ ?_ 0 iv (by omega) ⟨by omega, fun _ _ => rfl, fun i a b => by omega⟩
  · rintro v ⟨-, f, q⟩
    apply sX1_fewestLines_2 hR
    have e32 : v 32 3 = iv 32 3 := by rw [f 32 (by decide)]
    rw [e32, f 33 (by decide), f 34 (by decide), zshl_i n16]
    refine ⟨fun _ => ⟨by omega, ⟨by rw [f 33 (by decide), f 34 (by decide), e32]; exact h, ?_⟩, rfl, rfl, n16, ?_⟩, fun z => by omega⟩
    · rw [f 33 (by decide), f 34 (by decide), e32]; exact q
    · have := covN_r h
      rw [show (((2 ^ (iv 32 3).toNat : Nat) : Int) - 1).toNat = 2 ^ (iv 32 3).toNat - 1 by omega]
      show K (some (vi (min (iv 32 3) (covN (iv 33) (iv 34) (iv 32 3))))) _
      rw [show min (iv 32 3) (covN (iv 33) (iv 34) (iv 32 3)) = covN (iv 33) (iv 34) (iv 32 3) by omega]
      exact k v f
  · rintro c v hc ⟨c0, f, q⟩ ih
    apply sX1_fewestLines_2 hR
    have e32 : v 32 3 = iv 32 3 := by rw [f 32 (by decide)]
    rw [e32]
    refine ⟨fun z => by omega, fun _ => ?_⟩
    clear e32
    refine lp_up (P := fun s v => Z G mX1_fewestLines (d + 18) 0 0 12 [vr (some 32), vi c, vi s] [] (mkC v rv) K) 3 (fun s v => 0 ≤ s ∧ (∀ i, i ≠ 35 → v i = iv i) ∧ ∀ i : Int, 0 ≤ i → i < 3 * c + s → v 35 i.toNat = ((LQ (iv 33) (iv 34) (iv 32 3) i : Nat) : Int)) ?_ ?_ 0 v (by omega) ⟨by omega, f, fun i a b => q i a (by omega)⟩
    · rintro v ⟨-, f, q⟩
      apply sX1_fewestLines_12 hR
      exact ⟨fun _ => ⟨by omega, ih v ⟨by omega, f, fun i a b => q i a (by omega)⟩⟩, fun z => by omega⟩
    · rintro s v hs ⟨s0, f, q⟩ ihs
      apply sX1_fewestLines_12 hR
      have e32 : v 32 3 = iv 32 3 := by rw [f 32 (by decide)]
      rw [e32, f 33 (by decide), f 34 (by decide)]
      have w1 := wk_lt (f := iv 33) (g := iv 34) (w := 1) (s := s - 1) n16 (Or.inl rfl) 101 (iv 33 c.toNat) (iv 34 c.toNat)
      have w2 := wk_lt (f := iv 33) (g := iv 34) (w := -1) (s := s - 1) n16 (Or.inr rfl) 101 (iv 33 c.toNat) (iv 34 c.toNat)
      rw [zor_n (by omega) (by omega), Nat.or_comm]
      refine ⟨fun z => by omega, fun _ => ⟨by omega, by omega, by omega, h, by omega, Or.inl rfl, by omega, by omega, h, by omega, Or.inr rfl, by omega, by omega, by omega, ihs _ ⟨by omega, fun i ni => ?_, fun i a b => ?_⟩⟩⟩
      · rw [← f i ni]; exact iu_row (by omega)
      · by_cases e : i = 3 * c + s
        · subst e
          rw [LQ_at (by omega), show (c * 3 + s).toNat = (3 * c + s).toNat by omega]
          exact iu_eq
        · rw [← q i a (by omega)]
          unfold iu
          rw [if_neg (by omega)]
set_option maxRecDepth 20000 in
theorem sX11_cover_0 {G : ZG} {d : Nat} {iv : Nat → Nat → Int} {K : Option AV → AH → Prop} {rv : Nat → Nat → Option Nat} (hR : RC rv) (h : (ckU (iv 33) (iv 34) (iv 32 3)) ∧ ((∀ (v1 : Nat → Nat → Int), (∀ i, i ≠ 35 → v1 i = iv i) → (K (some (vi (covN (iv 33) (iv 34) (iv 32 3)))) (mkC (iu v1 0 17 0) rv))))) : Z G mX11_cover (d + 19) 0 0 0 [vr (some 0)] [] (mkC iv rv) K := (Z_aload_n (dX11_cover 0) rfl (Z_aload_n (dX11_cover 1) rfl (Z_gRC (r := (some 32)) (dX11_cover 2) lk_X11_58 sC0 rfl (hR 6) (Z_cVC (As := []) (S := [vr (some 0)]) (dX11_cover 3) lk_X11_281 sC32 (by decide) rfl rfl (Nat.le_of_ble_eq_true rfl) (Nat.le_of_ble_eq_true rfl) (C_fewestLines hR h.1 (fun v1 c2 => (Z_cVC (As := [vi (covN (iv 33) (iv 34) (iv 32 3))]) (S := []) (dX11_cover 4) lk_X11_166 sC0 (by decide) rfl rfl (Nat.le_of_ble_eq_true rfl) (Nat.le_of_ble_eq_true rfl) (C_give hR ((Z_ireturn (dX11_cover 5) rfl (h.2 v1 c2)))))))))))
theorem M_coverL {G : ZG} {d : Nat} {iv : Nat → Nat → Int} {K : Option AV → AH → Prop} (hM : ckM iv) (h : ckU (iv 21) (iv 22) (iv 0 30)) (k : ∀ v : Nat → Nat → Int, (∀ i, i ≠ 23 → i ≠ 24 → v i = iv i) → K (some (vi (covN (iv 21) (iv 22) (iv 0 30)))) (mkM (iu v 0 0 0))) : Z G mX12_cover (d + 2) 0 0 0 [vr (some 0), vu, vu, vu, vu] [] (mkM iv) K := by
  have n16 := h.1
  have hO := LQ_ok h
  have p := Nat.two_pow_pos (iv 0 30).toNat
  have p2 : 2 ^ (iv 0 30).toNat ≤ 65536 := by
    have := Nat.pow_le_pow_right (n := 2) (by decide) (show (iv 0 30).toNat ≤ 16 by omega)
    exact this
  have cM : ∀ v : Nat → Nat → Int, (∀ i, i ≠ 23 → i ≠ 24 → v i = iv i) → ckM v ∧ v 21 = iv 21 ∧ v 22 = iv 22 ∧ v 0 30 = iv 0 30 := by
    intro v f
    have e0 := f 0 (by decide) (by decide)
    refine ⟨?_, f 21 (by decide) (by decide), f 22 (by decide) (by decide), by rw [e0]⟩
    unfold ckM
    rw [e0, f 20 (by decide) (by decide), f 21 (by decide) (by decide), f 22 (by decide) (by decide)]
    exact hM
  apply sX12_cover_0
  refine lp_up (P := fun c v => Z G mX12_cover (d + 2) 0 0 9 [vr (some 0), vi c, vu, vu, vu] [] (mkM v) K) (iv 0 30) (fun c v => 0 ≤ c ∧ (∀ i, i ≠ 23 → i ≠ 24 → v i = iv i) ∧ v 23 0 = 0 ∧ ∀ i : Int, 0 ≤ i → i < 3 * c → v 24 i.toNat = ((LQ (iv 21) (iv 22) (iv 0 30) i : Nat) : Int)) ?_ ?_ 0 _ (by omega) ⟨by omega, fun i a b => iu_row a, iu_eq, fun i a b => by omega⟩
  · rintro v ⟨-, f, z0, q⟩
    apply sX12_cover_9
    rw [(cM v f).2.2.2]
    refine ⟨fun _ => ?_, fun z => by omega⟩
    refine lp_up (P := fun x v => Z G mX12_cover (d + 2) 0 0 56 [vr (some 0), vi x, vu, vu, vu] [] (mkM v) K) ((2 ^ (iv 0 30).toNat : Nat) : Int) (fun x v => 1 ≤ x ∧ (∀ i, i ≠ 23 → i ≠ 24 → v i = iv i) ∧ (∀ y : Nat, (y : Int) < x → v 23 y = cvT (LQ (iv 21) (iv 22) (iv 0 30)) y) ∧ ∀ i : Int, 0 ≤ i → i < 3 * iv 0 30 → v 24 i.toNat = ((LQ (iv 21) (iv 22) (iv 0 30) i : Nat) : Int)) ?_ ?_ 1 v (by omega) ⟨by omega, f, fun y a => by rw [show y = 0 by omega, z0]; rfl, q⟩
    · rintro v ⟨-, f, t, q⟩
      apply sX12_cover_56
      rw [(cM v f).2.2.2, zshl_i n16]
      refine ⟨fun _ => ⟨by omega, by omega, ?_⟩, fun z => by omega⟩
      rw [show (((2 ^ (iv 0 30).toNat : Nat) : Int) - 1).toNat = 2 ^ (iv 0 30).toNat - 1 by omega, t _ (by omega)]
      exact k v f
    · rintro x1 v hx ⟨x0, f, t, q⟩ ih
      apply sX12_cover_56
      rw [(cM v f).2.2.2, zshl_i n16]
      refine ⟨fun z => by omega, fun _ => ?_⟩
      obtain ⟨x, ex⟩ : ∃ x : Nat, x1 = x := ⟨x1.toNat, by omega⟩
      subst ex
      have hx2 : x < 2 ^ (iv 0 30).toNat := by omega
      have z : x ≠ 0 := by omega
      have x6 := hO.lt hx2
      have lb := lob_b z x6
      have ln := bit_lt hx2 lb.1
      refine lp_up (P := fun c (_ : Unit) => Z G mX12_cover (d + 2) 0 0 68 [vr (some 0), vi (x : Int), vi c, vu, vu] [] (mkM v) K) (lob 16 x : Int) (fun c _ => 0 ≤ c) ?_ ?_ 0 () (by omega) (by omega)
      · rintro - -
        apply sX12_cover_68
        rw [zbit x6 (by omega)]
        refine ⟨fun _ => ?_, fun w => by rw [lb.1] at w; exact absurd w (by decide)⟩
        have key : ∀ s : Int, 0 ≤ s → s < 3 → zand (x : Int) (zxor (v 24 (3 * (lob 16 x : Int) + s).toNat) (-1)) = ((sdf x (LQ (iv 21) (iv 22) (iv 0 30) (3 * (lob 16 x : Int) + s)) : Nat) : Int) := by
          intro s s0 s3
          rw [q _ (by omega) (by omega), zandn_n x6 (LQ_lt h)]; rfl
        have e := cvT_e hO hx2 z
        have cut := fun s a b => hO.cut hx2 z (s := s) a b
        generalize hL : LQ (iv 21) (iv 22) (iv 0 30) = L at *
        have step : ∀ (s e : Int), 0 ≤ s → s < 3 → Z G mX12_cover (d + 2) 0 0 89 [vr (some 0), vi (x : Int), vi (lob 16 x : Int), vi (min e (1 + cvT L (sdf x (L (3 * (lob 16 x : Int) + s))))), vi (s + 1)] [] (mkM v) K → Z G mX12_cover (d + 2) 0 0 89 [vr (some 0), vi (x : Int), vi (lob 16 x : Int), vi e, vi s] [] (mkM v) K := by
          intro s e s0 s3 kk
          apply sX12_cover_89
          have c := cut s s0 s3
          have r := cvT_r (L := L) (sdf x (L (3 * (lob 16 x : Int) + s)))
          rw [key s s0 s3]
          simp only [Int.toNat_natCast]
          rw [t _ (by omega)]
          exact ⟨fun w => by omega, fun _ => ⟨by omega, by omega, by omega, by omega, by omega, by omega, kk⟩⟩
        apply step 0 _ (by omega) (by omega)
        apply step 1 _ (by omega) (by omega)
        apply step 2 _ (by omega) (by omega)
        apply sX12_cover_89
        unfold cst at e
        rw [← e]
        refine ⟨fun _ => ⟨by omega, by omega, ih _ ⟨by omega, fun i a b => ?_, fun y a => ?_, fun i a b => ?_⟩⟩, fun w => by omega⟩
        · rw [← f i a b]; exact iu_row (by omega)
        · by_cases g : y = x
          · subst g; rw [Int.toNat_natCast]; exact iu_eq
          · rw [← t y (by omega)]
            unfold iu
            rw [if_neg (by omega)]
        · rw [← q i a b]
          unfold iu
          rw [if_neg (by omega)]
      · rintro c - hc c0 ihc
        apply sX12_cover_68
        obtain ⟨c', ec⟩ : ∃ c' : Nat, c = c' := ⟨c.toNat, by omega⟩
        subst ec
        rw [zbit x6 (by omega)]
        exact ⟨fun w => absurd (lb.2 c' (by omega)) w, fun _ => ⟨by omega, ihc () (by omega)⟩⟩
  · rintro c v hc ⟨c0, f, z0, q⟩ ih
    apply sX12_cover_9
    rw [(cM v f).2.2.2]
    refine ⟨fun z => by omega, fun _ => ?_⟩
    refine lp_up (P := fun s v => Z G mX12_cover (d + 2) 0 0 19 [vr (some 0), vi c, vi s, vu, vu] [] (mkM v) K) 3 (fun s v => 0 ≤ s ∧ (∀ i, i ≠ 23 → i ≠ 24 → v i = iv i) ∧ v 23 0 = 0 ∧ ∀ i : Int, 0 ≤ i → i < 3 * c + s → v 24 i.toNat = ((LQ (iv 21) (iv 22) (iv 0 30) i : Nat) : Int)) ?_ ?_ 0 v (by omega) ⟨by omega, f, z0, fun i a b => q i a (by omega)⟩
    · rintro v ⟨-, f, z0, q⟩
      apply sX12_cover_19
      exact ⟨fun _ => ⟨by omega, ih v ⟨by omega, f, z0, fun i a b => q i a (by omega)⟩⟩, fun z => by omega⟩
    · rintro s v hs ⟨s0, f, z0, q⟩ ihs
      apply sX12_cover_19
      obtain ⟨m, e1, e2, e3⟩ := cM v f
      rw [e1, e2, e3]
      refine ⟨fun z => by omega, fun _ => ⟨by omega, by omega, by omega, m, h, by omega, by omega, by omega, by omega, ihs _ ⟨by omega, fun i a b => ?_, ?_, fun i a b => ?_⟩⟩⟩
      · rw [← f i a b]; exact iu_row (by omega)
      · rw [← z0]; exact congrFun (iu_row (by omega)) 0
      · by_cases g : i = 3 * c + s
        · subst g
          rw [LQ_at (by omega)]
          exact iu_eq
        · rw [← q i a (by omega)]
          unfold iu
          rw [if_neg (by omega)]

