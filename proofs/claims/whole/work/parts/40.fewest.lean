/-! ===== the fewest lines: the class and the model ===== -/
def lnOk (iv : Nat → Nat → Int) : Prop := ckU (iv 33) (iv 34) (iv 32 3) ∧ ∀ i : Int, 0 ≤ i → i < 3 * iv 32 3 → iv 35 i.toNat = ((LQ (iv 33) (iv 34) (iv 32 3) i : Nat) : Int)
def vnO (L : Int → Nat) (b s : Int) (x : Nat) (o : Int) : Prop := o ≠ s ∧ sdf (L (b + s) &&& x) (L (b + o) &&& x) = 0 ∧ (L (b + s) &&& x ≠ L (b + o) &&& x ∨ o < s)
def vnP (L : Int → Nat) (b s : Int) (x : Nat) : Prop := ∃ o : Int, (0 ≤ o ∧ o < 3) ∧ vnO L b s x o
theorem C_isVain {G : ZG} {d : Nat} {iv : Nat → Nat → Int} {K : Option AV → AH → Prop} {rv : Nat → Nat → Option Nat} {x1 x2 x3 : Int} (hR : RC rv) (h : lnOk iv) (h1 : 0 ≤ x1 ∧ x1 + 3 ≤ 3 * iv 32 3) (h2 : 0 ≤ x2 ∧ x2 < 3) (h3 : 0 ≤ x3 ∧ x3 < 65536) (k : K (some (vi (c01 (vnP (LQ (iv 33) (iv 34) (iv 32 3)) x1 x2 x3.toNat)))) (mkC iv rv)) : Z G mX1_isVain d 0 0 0 [vr (some 35), vi x1, vi x2, vi x3, vu, vu, vu] [] (mkC iv rv) K := by
  obtain ⟨hU, hL⟩ := h
  have n16 := hU.1
  obtain ⟨x, ex⟩ : ∃ x : Nat, x3 = x := ⟨x3.toNat, by omega⟩
  subst ex
  rw [Int.toNat_natCast] at k
  apply sX1_isVain_0 hR
  have lt : ∀ i, LQ (iv 33) (iv 34) (iv 32 3) i < 65536 := fun i => LQ_lt hU
  generalize LQ (iv 33) (iv 34) (iv 32 3) = L at *
  have an : ∀ o : Int, 0 ≤ o → o < 3 → zand (iv 35 (x1 + o).toNat) (x : Int) = ((L (x1 + o) &&& x : Nat) : Int) := by
    intro o o0 o3
    rw [hL (x1 + o) (by omega) (by omega), zand_n (by have := lt (x1 + o); omega) (by omega)]
  have al : ∀ o : Int, L (x1 + o) &&& x < 65536 := fun o => Nat.lt_of_le_of_lt Nat.and_le_left (lt _)
  rw [an x2 h2.1 h2.2]
  refine ⟨by omega, by omega, ?_⟩
  refine lp_up (P := fun o (_ : Unit) => Z G mX1_isVain d 0 0 12 [vr (some 35), vi x1, vi x2, vi (x : Int), vi ((L (x1 + x2) &&& x : Nat) : Int), vi o, vu] [] (mkC iv rv) K) 3 (fun o _ => 0 ≤ o ∧ ∀ p : Int, 0 ≤ p → p < o → ¬ vnO L x1 x2 x p) ?_ ?_ 0 () (by omega) ⟨by omega, fun p a b => by omega⟩
  · rintro - ⟨-, q⟩
    rw [c01_f (fun ⟨o, ho, z⟩ => q o ho.1 ho.2 z)] at k
    apply sX1_isVain_12 hR
    exact ⟨fun _ => k, fun z => by omega⟩
  · rintro o - ho ⟨o0, q⟩ ih
    have nx : ¬ vnO L x1 x2 x o → Z G mX1_isVain d 0 0 12 [vr (some 35), vi x1, vi x2, vi (x : Int), vi ((L (x1 + x2) &&& x : Nat) : Int), vi (o + 1), vu] [] (mkC iv rv) K := fun n => ih () ⟨by omega, fun p a b => by
      by_cases e : p = o
      · rw [e]; exact n
      · exact q p a (by omega)⟩
    have ys : vnO L x1 x2 x o → K (some (vi 1)) (mkC iv rv) := fun y => by
      rw [c01_t ⟨o, ⟨o0, ho⟩, y⟩] at k; exact k
    apply sX1_isVain_12 hR
    rw [an o o0 ho, zandn_n (al _) (al _)]
    have es : (L (x1 + x2) &&& x) &&& (65535 ^^^ (L (x1 + o) &&& x)) = sdf (L (x1 + x2) &&& x) (L (x1 + o) &&& x) := rfl
    rw [es]
    refine ⟨fun z => by omega, fun _ => ⟨by omega, by omega, fun e => ⟨by omega, nx (fun z => z.1 e)⟩, fun n => ⟨fun m => ⟨by omega, nx (fun z => m (by rw [z.2.1]; rfl))⟩, fun m => ⟨fun g => ys ⟨n, by omega, Or.inl (fun z => g (by rw [z]))⟩, fun g => ⟨fun w => ⟨by omega, nx (fun z => by
      rcases z.2.2 with u | u
      · exact u (by omega)
      · omega)⟩, fun w => ys ⟨n, by omega, Or.inr w⟩⟩⟩⟩⟩⟩
set_option maxRecDepth 20000 in
theorem sX1_fewest_0 {G : ZG} {d : Nat} {iv : Nat → Nat → Int} {K : Option AV → AH → Prop} {rv : Nat → Nat → Option Nat} {x1 x2 x3 : Int} (hR : RC rv) (h : (¬ x1 = 0 → ((-2147483648 ≤ (x2 + 1) ∧ (x2 + 1) ≤ 2147483647) ∧ (((x2 + 1) < x3 → ((0 < x1 ∧ x1 < 65536) ∧ (Z G mX1_fewest (d + 1) 0 0 31 [vr (some 35), vi x1, vi x2, vu, vi ((lob 16 (x1).toNat : Nat) : Int), vi x3, vi 0, vu] [] (mkC iv rv) K))) ∧ (x3 ≤ (x2 + 1) → (K (some (vi x3)) (mkC iv rv)))))) ∧ (x1 = 0 → (K (some (vi (min x2 x3))) (mkC iv rv)))) : Z G mX1_fewest (d + 1) 0 0 0 [vr (some 35), vi x1, vi x2, vi x3, vu, vu, vu, vu] [] (mkC iv rv) K := (Z_iload_n (dX1_fewest 0) rfl (Z_if_ne (dX1_fewest 1) rfl (fun c1 => (Z_iload_n (dX1_fewest 6) rfl (Z_iconst (dX1_fewest 7) ⟨by decide, by decide⟩ (Z_iadd (dX1_fewest 8) (h.1 c1).1 (Z_iload_n (dX1_fewest 9) rfl (Z_icmp_lt (dX1_fewest 10) rfl (fun c3 => (Z_iload_n (dX1_fewest 13) rfl (Z_cS (As := [vi x1]) (S := []) (dX1_fewest 14) lk_X1_64 rfl (Nat.le_of_ble_eq_true rfl) (Nat.le_of_ble_eq_true rfl) (J_ntzI  ((h.1 c1).2.1 c3).1 ((Z_istore (dX1_fewest 15) (Nat.le_of_ble_eq_true rfl) rfl (Z_iload_n (dX1_fewest 16) rfl (Z_istore (dX1_fewest 17) (Nat.le_of_ble_eq_true rfl) rfl (Z_iconst (dX1_fewest 18) ⟨by decide, by decide⟩ (Z_istore (dX1_fewest 19) (Nat.le_of_ble_eq_true rfl) rfl (Z.fg (L' := [vr (some 35), vi x1, vi x2, vu, vi ((lob 16 (x1).toNat : Nat) : Int), vi x3, vi 0, vu]) (L := [vr (some 35), vi x1, vi x2, vi x3, vi ((lob 16 (x1).toNat : Nat) : Int), vi x3, vi 0, vu]) ⟨Or.inl rfl, ⟨Or.inl rfl, ⟨Or.inl rfl, ⟨Or.inr rfl, ⟨Or.inl rfl, ⟨Or.inl rfl, ⟨Or.inl rfl, ⟨Or.inl rfl, trivial⟩⟩⟩⟩⟩⟩⟩⟩ ((h.1 c1).2.1 c3).2))))))))))) (fun c4 => (Z_iload_n (dX1_fewest 11) rfl (Z_ireturn (dX1_fewest 12) rfl ((h.1 c1).2.2 c4)))))))))) (fun c2 => (Z_iload_n (dX1_fewest 2) rfl (Z_iload_n (dX1_fewest 3) rfl (Z_min (dX1_fewest 4) lk_X1_59 mt_min_s mt_ini mt_min_c (Nat.le_of_ble_eq_true rfl) (Z_ireturn (dX1_fewest 5) rfl (h.2 c2))))))))
set_option maxRecDepth 20000 in
theorem sX1_fewest_31 {G : ZG} {d : Nat} {iv : Nat → Nat → Int} {K : Option AV → AH → Prop} {rv : Nat → Nat → Option Nat} {x1 x2 x4 x5 x6 : Int} (hR : RC rv) (h : (3 ≤ x6 → (K (some (vi x5)) (mkC iv rv))) ∧ (x6 < 3 → ((-2147483648 ≤ (x4 * 3) ∧ (x4 * 3) ≤ 2147483647) ∧ ((lnOk iv) ∧ ((0 ≤ (x4 * 3) ∧ (x4 * 3) + 3 ≤ 3 * iv 32 3) ∧ ((0 ≤ x6 ∧ x6 < 3) ∧ ((0 ≤ x1 ∧ x1 < 65536) ∧ ((vnP (LQ (iv 33) (iv 34) (iv 32 3)) (x4 * 3) x6 (x1).toNat → ((-2147483648 ≤ (x6 + 1) ∧ (x6 + 1) ≤ 2147483647) ∧ (Z G mX1_fewest (d + 1) 0 0 31 [vr (some 35), vi x1, vi x2, vu, vi x4, vi x5, vi (x6 + 1), vu] [] (mkC iv rv) K))) ∧ (¬ (vnP (LQ (iv 33) (iv 34) (iv 32 3)) (x4 * 3) x6 (x1).toNat) → ((-2147483648 ≤ (x4 * 3) ∧ (x4 * 3) ≤ 2147483647) ∧ ((-2147483648 ≤ ((x4 * 3) + x6) ∧ ((x4 * 3) + x6) ≤ 2147483647) ∧ ((0 ≤ ((x4 * 3) + x6) ∧ ((x4 * 3) + x6) < (48 : Nat)) ∧ ((-2147483648 ≤ (x2 + 1) ∧ (x2 + 1) ≤ 2147483647) ∧ (Z G mX1_fewest d 0 0 0 [vr (some 35), vi (zand x1 (zxor (iv 35 (((x4 * 3) + x6).toNat)) (-1))), vi (x2 + 1), vi x5, vu, vu, vu, vu] [] (mkC iv rv) (fun r A1 => Z G mX1_fewest (d + 1) 0 0 77 [vr (some 35), vi x1, vi x2, vu, vi x4, vi x5, vi x6, vi (zand x1 (zxor (iv 35 (((x4 * 3) + x6).toNat)) (-1)))] (r.toList ++ []) A1 K))))))))))))))) : Z G mX1_fewest (d + 1) 0 0 31 [vr (some 35), vi x1, vi x2, vu, vi x4, vi x5, vi x6, vu] [] (mkC iv rv) K := (Z_iload (dX1_fewest 20) rfl (Z_iconst (dX1_fewest 21) ⟨by decide, by decide⟩ (Z_icmp_ge (dX1_fewest 22) rfl (fun c1 => (Z_iload (dX1_fewest 53) rfl (Z_ireturn (dX1_fewest 54) rfl (h.1 c1)))) (fun c2 => (Z_aload_n (dX1_fewest 23) rfl (Z_iload (dX1_fewest 24) rfl (Z_iconst (dX1_fewest 25) ⟨by decide, by decide⟩ (Z_imul (dX1_fewest 26) (h.2 c2).1 (Z_iload (dX1_fewest 27) rfl (Z_iload_n (dX1_fewest 28) rfl (Z_cS (As := [vr (some 35), vi (x4 * 3), vi x6, vi x1]) (S := []) (dX1_fewest 29) lk_X1_67 rfl (Nat.le_of_ble_eq_true rfl) (Nat.le_of_ble_eq_true rfl) (C_isVain hR (h.2 c2).2.1 (h.2 c2).2.2.1 (h.2 c2).2.2.2.1 (h.2 c2).2.2.2.2.1 ((Z_if_ne (dX1_fewest 30) rfl (fun c3 => (Z_iinc (dX1_fewest 51) rfl (Nat.le_of_ble_eq_true rfl) ((h.2 c2).2.2.2.2.2.1 (c01_n.mp c3)).1 rfl (Z_goto (dX1_fewest 52) rfl ((h.2 c2).2.2.2.2.2.1 (c01_n.mp c3)).2))) (fun c4 => (Z_iload_n (dX1_fewest 31) rfl (Z_aload_n (dX1_fewest 32) rfl (Z_iload (dX1_fewest 33) rfl (Z_iconst (dX1_fewest 34) ⟨by decide, by decide⟩ (Z_imul (dX1_fewest 35) ((h.2 c2).2.2.2.2.2.2 (c01_0.mp c4)).1 (Z_iload (dX1_fewest 36) rfl (Z_iadd (dX1_fewest 37) ((h.2 c2).2.2.2.2.2.2 (c01_0.mp c4)).2.1 (Z_ilC (x := (iv 35 (((x4 * 3) + x6).toNat))) (dX1_fewest 38) sC35 ((h.2 c2).2.2.2.2.2.2 (c01_0.mp c4)).2.2.1 rfl (Z_iconst (dX1_fewest 39) ⟨by decide, by decide⟩ (Z_ixor (dX1_fewest 40) (Z_iand (dX1_fewest 41) (Z_istore (dX1_fewest 42) (Nat.le_of_ble_eq_true rfl) rfl (Z_aload_n (dX1_fewest 43) rfl (Z_iload (dX1_fewest 44) rfl (Z_iload_n (dX1_fewest 45) rfl (Z_iconst (dX1_fewest 46) ⟨by decide, by decide⟩ (Z_iadd (dX1_fewest 47) ((h.2 c2).2.2.2.2.2.2 (c01_0.mp c4)).2.2.2.1 (Z_iload (dX1_fewest 48) rfl (Z_cS (As := [vr (some 35), vi (zand x1 (zxor (iv 35 (((x4 * 3) + x6).toNat)) (-1))), vi (x2 + 1), vi x5]) (S := []) (dX1_fewest 49) lk_X1_55 rfl (Nat.le_of_ble_eq_true rfl) (Nat.le_of_ble_eq_true rfl) ((h.2 c2).2.2.2.2.2.2 (c01_0.mp c4)).2.2.2.2))))))))))))))))))))))))))))))))))
set_option maxRecDepth 20000 in
theorem sX1_fewest_77 {G : ZG} {d : Nat} {iv : Nat → Nat → Int} {K : Option AV → AH → Prop} {rv : Nat → Nat → Option Nat} {x1 x2 x4 x6 y0 : Int} (hR : RC rv) (h : (-2147483648 ≤ (x6 + 1) ∧ (x6 + 1) ≤ 2147483647) ∧ (Z G mX1_fewest (d + 1) 0 0 31 [vr (some 35), vi x1, vi x2, vu, vi x4, vi y0, vi (x6 + 1), vu] [] (mkC iv rv) K)) : Z G mX1_fewest (d + 1) 0 0 77 [vr (some 35), vi x1, vi x2, vu, vi x4, vu, vi x6, vu] [vi y0] (mkC iv rv) K := (Z_istore (dX1_fewest 50) (Nat.le_of_ble_eq_true rfl) rfl (Z_iinc (dX1_fewest 51) rfl (Nat.le_of_ble_eq_true rfl) h.1 rfl (Z_goto (dX1_fewest 52) rfl h.2)))
theorem vn_top {L : Int → Nat} {b : Int} {x : Nat} (hx : x < 65536) {s : Int} (hs : 0 ≤ s ∧ s < 3) : ∃ t : Int, (0 ≤ t ∧ t < 3) ∧ ¬ vnP L b t x ∧ sb (L (b + s) &&& x) (L (b + t) &&& x) := by
  have al : ∀ o : Int, L (b + o) &&& x < 65536 := fun o => Nat.lt_of_le_of_lt Nat.and_le_right hx
  have st : ∀ s o : Int, vnO L b s x o → sb (L (b + s) &&& x) (L (b + o) &&& x) ∧ 4 * ((L (b + s) &&& x : Nat) : Int) - s < 4 * ((L (b + o) &&& x : Nat) : Int) - o ∨ ¬ (0 ≤ s ∧ s < 3 ∧ 0 ≤ o ∧ o < 3) := by
    intro s o z
    by_cases r : 0 ≤ s ∧ s < 3 ∧ 0 ≤ o ∧ o < 3
    · left
      have u : sb (L (b + s) &&& x) (L (b + o) &&& x) := by
        intro i q
        have e := sdf_b (x := L (b + s) &&& x) (y := L (b + o) &&& x) (i := i) (al s)
        rw [z.2.1, Nat.zero_testBit, q] at e
        cases w : (L (b + o) &&& x).testBit i
        · rw [w] at e; exact absurd e (by decide)
        · rfl
      refine ⟨u, ?_⟩
      have le := sb_le u
      rcases z.2.2 with w | w
      · omega
      · omega
    · exact Or.inr r
  have tr : ∀ {p q r : Nat}, sb p q → sb q r → sb p r := fun a c i z => c i (a i z)
  by_cases v0 : vnP L b s x
  · obtain ⟨o1, r1, z1⟩ := v0
    have u1 := (st s o1 z1).resolve_right (by omega)
    by_cases v1 : vnP L b o1 x
    · obtain ⟨o2, r2, z2⟩ := v1
      have u2 := (st o1 o2 z2).resolve_right (by omega)
      by_cases v2 : vnP L b o2 x
      · obtain ⟨o3, r3, z3⟩ := v2
        have u3 := (st o2 o3 z3).resolve_right (by omega)
        exfalso
        have n01 : s ≠ o1 := fun e => by subst e; omega
        have n12 : o1 ≠ o2 := fun e => by subst e; omega
        have n02 : s ≠ o2 := fun e => by subst e; omega
        have n03 : s ≠ o3 := fun e => by subst e; omega
        have n13 : o1 ≠ o3 := fun e => by subst e; omega
        have n23 : o2 ≠ o3 := fun e => by subst e; omega
        omega
      · exact ⟨o2, r2, v2, tr u1.1 u2.1⟩
    · exact ⟨o1, r1, v1, u1.1⟩
  · exact ⟨s, hs, v0, fun i z => z⟩
def fwE (L : Int → Nat) (x : Nat) (u b e : Int) : Prop := e = b ∨ ∃ t : Int, (0 ≤ t ∧ t < 3) ∧ u + 1 + cvT L (sdf x (L (3 * (lob 16 x : Int) + t))) ≤ e
theorem C_fewest {G : ZG} {d : Nat} {iv : Nat → Nat → Int} {rv : Nat → Nat → Option Nat} (hR : RC rv) (h : lnOk iv) : ∀ (F x : Nat) (u b : Int) (K : Option AV → AH → Prop), x < 2 ^ (iv 32 3).toNat → pop 16 x ≤ F → (0 ≤ u ∧ u + F ≤ 1000) → (0 ≤ b ∧ b ≤ 1000000) → K (some (vi (min b (u + cvT (LQ (iv 33) (iv 34) (iv 32 3)) x)))) (mkC iv rv) → Z G mX1_fewest (d + F + 1) 0 0 0 [vr (some 35), vi (x : Int), vi u, vi b, vu, vu, vu, vu] [] (mkC iv rv) K := by
  intro F
  have hU := h.1
  have n16 := hU.1
  have hO := LQ_ok hU
  induction F with
  | zero =>
    intro x u b K hx hp hu hb k
    apply sX1_fewest_0 hR
    by_cases z : x = 0
    · subst z
      rw [cvT_0] at k
      refine ⟨fun n => by omega, fun _ => ?_⟩
      rw [show min u b = min b (u + 0) by omega]; exact k
    · exfalso
      have lb := (lob_b z (hO.lt hx)).1
      have := pop_lt (x := 0) (y := x) (c := lob 16 x) (fun i q => by simp at q) lb (by simp) 16 (by have := bit_lt hx lb; omega)
      omega
  | succ F ih =>
    intro x u b K hx hp hu hb k
    have x6 := hO.lt hx
    apply sX1_fewest_0 hR
    by_cases z : x = 0
    · subst z
      rw [cvT_0] at k
      refine ⟨fun n => by omega, fun _ => ?_⟩
      rw [show min u b = min b (u + 0) by omega]; exact k
    · have lb := (lob_b z x6).1
      have ln := bit_lt hx lb
      have cr := cvT_ex hO hx z
      have c1 : 1 ≤ cvT (LQ (iv 33) (iv 34) (iv 32 3)) x := by
        rcases cr with e | ⟨s, -, e⟩
        · omega
        · have := cvT_r (L := LQ (iv 33) (iv 34) (iv 32 3)) (sdf x (LQ (iv 33) (iv 34) (iv 32 3) (3 * (lob 16 x : Int) + s))); omega
      refine ⟨fun _ => ⟨by omega, fun q => ⟨by omega, ?_⟩, fun q => ?_⟩, fun n => by omega⟩
      · rw [Int.toNat_natCast]
        have key : ∀ s : Int, 0 ≤ s → s < 3 → zand (x : Int) (zxor (iv 35 ((lob 16 x : Int) * 3 + s).toNat) (-1)) = ((sdf x (LQ (iv 33) (iv 34) (iv 32 3) (3 * (lob 16 x : Int) + s)) : Nat) : Int) := by
          intro s s0 s3
          rw [h.2 _ (by omega) (by omega), zandn_n x6 (LQ_lt hU), Int.mul_comm (lob 16 x : Int) 3]; rfl
        have le := fun s a c => cvT_le hO hx z (s := s) a c
        generalize hL : LQ (iv 33) (iv 34) (iv 32 3) = L at *
        have tr := fun y => cvT_r (L := L) y
        refine lp_up (P := fun s e => Z G mX1_fewest (d + (F + 1) + 1) 0 0 31 [vr (some 35), vi (x : Int), vi u, vu, vi ((lob 16 x : Nat) : Int), vi e, vi s, vu] [] (mkC iv rv) K) 3 (fun s e => 0 ≤ s ∧ (0 ≤ e ∧ e ≤ b) ∧ (∀ t : Int, 0 ≤ t → t < s → ¬ vnP L (3 * (lob 16 x : Int)) t x → e ≤ u + 1 + cvT L (sdf x (L (3 * (lob 16 x : Int) + t)))) ∧ fwE L x u b e) ?_ ?_ 0 b (by omega) ⟨by omega, by omega, fun t a c => by omega, Or.inl rfl⟩
        · rintro e ⟨-, e0, e1, e2⟩
          apply sX1_fewest_31 hR
          refine ⟨fun _ => ?_, fun n => by omega⟩
          have fin : e = min b (u + cvT L x) := by
            have hi : e ≤ u + cvT L x := by
              rcases cr with w | ⟨s, hs, w⟩
              · omega
              · obtain ⟨t, ht, nv, su⟩ := vn_top (L := L) (b := 3 * (lob 16 x : Int)) x6 hs
                have a1 := e1 t ht.1 ht.2 nv
                have a2 : cvT L (sdf x (L (3 * (lob 16 x : Int) + t))) ≤ cvT L (sdf x (L (3 * (lob 16 x : Int) + s))) := by
                  refine cvT_mono hO (Nat.lt_of_le_of_lt (sdf_le _ _) hx) ?_
                  intro i qi
                  rw [sdf_b x6, Bool.and_eq_true] at qi
                  rw [sdf_b x6, Bool.and_eq_true]
                  refine ⟨qi.1, ?_⟩
                  cases w2 : (L (3 * (lob 16 x : Int) + s)).testBit i
                  · rfl
                  · have := su i (by rw [Nat.testBit_and, w2, qi.1]; rfl)
                    rw [Nat.testBit_and, Bool.and_eq_true] at this
                    rw [this.1] at qi
                    exact absurd qi.2 (by decide)
                omega
            rcases e2 with w | ⟨t, ht, w⟩
            · omega
            · have := le t ht.1 ht.2
              omega
          rw [fin]; exact k
        · clear cr
          rintro s e hs ⟨s0, e0, e1, e2⟩ ihs
          apply sX1_fewest_31 hR
          rw [hL, Int.toNat_natCast, Int.mul_comm (lob 16 x : Int) 3]
          have key' := key s s0 hs
          rw [Int.mul_comm (lob 16 x : Int) 3] at key'
          rw [key']
          refine ⟨fun n => by omega, fun _ => ⟨by omega, h, by omega, by omega, by omega, fun v => ⟨by omega, ihs e ⟨by omega, e0, fun t a c nv => ?_, e2⟩⟩, fun v => ⟨by omega, by omega, by omega, by omega, ?_⟩⟩⟩
          · by_cases g : t = s
            · subst g; exact absurd v nv
            · exact e1 t a (by omega) nv
          · have lt := hO.cut hx z s0 hs
            refine ih _ (u + 1) e _ (by omega) ?_ (by omega) (by omega) ?_
            · have := pop_lt (x := sdf x (L (3 * (lob 16 x : Int) + s))) (y := x) (c := lob 16 x) (fun i q => by rw [sdf_b x6, Bool.and_eq_true] at q; exact q.1) lb (by rw [sdf_b x6, lb, hO.own _ ln s s0 hs]; rfl) 16 (by omega)
              omega
            · have rr := tr (sdf x (L (3 * (lob 16 x : Int) + s)))
              refine Z.fg (L' := [vr (some 35), vi (x : Int), vi u, vu, vi ((lob 16 x : Nat) : Int), vu, vi s, vu]) ⟨Or.inl rfl, Or.inl rfl, Or.inl rfl, Or.inl rfl, Or.inl rfl, Or.inr rfl, Or.inl rfl, Or.inr rfl, trivial⟩ ?_
              apply sX1_fewest_77 hR
              refine ⟨by omega, ihs _ ⟨by omega, by omega, fun t a c nv => ?_, ?_⟩⟩
              · by_cases g : t = s
                · subst g; omega
                · have := e1 t a (by omega) nv; omega
              · by_cases g : e ≤ u + 1 + cvT L (sdf x (L (3 * (lob 16 x : Int) + s)))
                · rw [show min e (u + 1 + cvT L (sdf x (L (3 * (lob 16 x : Int) + s)))) = e by omega]; exact e2
                · right; exact ⟨s, ⟨s0, hs⟩, by omega⟩
      · rw [show min b (u + cvT (LQ (iv 33) (iv 34) (iv 32 3)) x) = b by omega] at k
        exact k

