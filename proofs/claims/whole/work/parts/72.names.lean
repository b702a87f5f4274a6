/-! ===== reading in step: the model's wants; names ===== -/
def wantR (x : Int) (m : Nat → Nat → Int) (b : Int) (v : Nat → Nat → Int) : Prop := (isS m x ∧ b = 1 ∧ v = nx m) ∨ (¬ isS m x ∧ b = 0 ∧ v = mfail 2 m)
theorem M_want {G : ZG} {d : Nat} {iv : Nat → Nat → Int} {K : Option AV → AH → Prop} {x1 : Int} (h : TxM iv) (k : ∀ (b : Int) (v : Nat → Nat → Int), wantR x1 iv b v → K (some (vi b)) (mkM v)) : Z G mX12_want (d + 2) 0 0 0 [vr (some 0), vi x1] [] (mkM iv) K := by
  apply sX12_want_c
  exact ⟨fun y => ⟨by have := h.1; omega, h.1.2.2.2, h.2, k 1 _ (Or.inl ⟨y, rfl, rfl⟩)⟩, fun n => k 0 _ (Or.inr ⟨n, rfl, rfl⟩)⟩
def numR (l g : Int) (m : Nat → Nat → Int) (r : Int) (v : Nat → Nat → Int) : Prop := (nOkB m l g ∧ r = m 0 48 ∧ v = nx m) ∨ (¬ nOkB m l g ∧ r = -1 ∧ v = mfail (if m 0 45 = 3 then 4 else 2) m)
theorem M_wantNumber {G : ZG} {d : Nat} {iv : Nat → Nat → Int} {K : Option AV → AH → Prop} {x1 x2 : Int} (h : TxM iv) (k : ∀ (r : Int) (v : Nat → Nat → Int), numR x1 x2 iv r v → K (some (vi r)) (mkM v)) : Z G mX12_wantNumber (d + 2) 0 0 0 [vr (some 0), vi x1, vi x2, vu] [] (mkM iv) K := by
  apply sX12_wantNumber_0
  have b4 : iv 0 45 = 3 → ¬ nOkB iv x1 x2 → K (some (vi (-1))) (mkM (mfail 4 iv)) := fun e n => by
    have := k (-1) (mfail (if iv 0 45 = 3 then 4 else 2) iv) (Or.inr ⟨n, rfl, rfl⟩)
    rw [if_pos e] at this; exact this
  refine ⟨fun e => ⟨fun lt => b4 e (fun z => by have := z.2; omega), fun ge => ⟨fun le => ⟨by have := h.1; omega, h.1.2.2.2, h.2, k _ _ (Or.inl ⟨⟨e, ge, le⟩, rfl, rfl⟩)⟩, fun gt => b4 e (fun z => by have := z.2; omega)⟩⟩, fun n => ?_⟩
  have := k (-1) (mfail (if iv 0 45 = 3 then 4 else 2) iv) (Or.inr ⟨fun z => n z.1, rfl, rfl⟩)
  rw [if_neg n] at this; exact this
set_option maxRecDepth 20000 in
theorem sX12_wantName_0 {G : ZG} {d : Nat} {iv : Nat → Nat → Int} {K : Option AV → AH → Prop} (h : (¬ (iv 0 45) = 2 → (K (some (vi (-1))) (mkM (mfail 2 iv)))) ∧ ((iv 0 45) = 2 → ((-2147483648 ≤ ((iv 0 47) - (iv 0 46)) ∧ ((iv 0 47) - (iv 0 46)) ≤ 2147483647) ∧ ((((iv 0 47) - (iv 0 46)) ≤ 8 → (Z G mX12_wantName (d + 2) 0 0 37 [vr (some 0), vl 0, vu, vi (iv 0 46), vu] [] (mkM iv) K)) ∧ (8 < ((iv 0 47) - (iv 0 46)) → (K (some (vi (-1))) (mkM (mfail 2 iv)))))))) : Z G mX12_wantName (d + 2) 0 0 0 [vr (some 0), vu, vu, vu, vu] [] (mkM iv) K := (Z_aload_n (dX12_wantName 0) rfl (Z_gIM (x := (iv 0 45)) (dX12_wantName 1) lk_X12_376 sM0 (Or.inl rfl) rfl (Z_iconst (dX12_wantName 2) ⟨by decide, by decide⟩ (Z_icmp_ne (dX12_wantName 3) rfl (fun c1 => (Z_aload_n (dX12_wantName 11) rfl (Z_iconst (dX12_wantName 12) ⟨by decide, by decide⟩ (Z_cVM (As := [vi 2]) (S := []) (dX12_wantName 13) lk_X12_401 sM0 (by decide) rfl rfl (Nat.le_of_ble_eq_true rfl) (Nat.le_of_ble_eq_true rfl) (M_fail  ((Z_istore_n (dX12_wantName 14) (Nat.le_of_ble_eq_true rfl) rfl (Z_iconst (dX12_wantName 15) ⟨by decide, by decide⟩ (Z_ireturn (dX12_wantName 16) rfl (h.1 c1)))))))))) (fun c2 => (Z_aload_n (dX12_wantName 4) rfl (Z_gIM (x := (iv 0 47)) (dX12_wantName 5) lk_X12_364 sM0 (Or.inl rfl) rfl (Z_aload_n (dX12_wantName 6) rfl (Z_gIM (x := (iv 0 46)) (dX12_wantName 7) lk_X12_370 sM0 (Or.inl rfl) rfl (Z_isub (dX12_wantName 8) (h.2 c2).1 (Z_bipush (dX12_wantName 9) ⟨by decide, by decide⟩ (Z_icmp_le (dX12_wantName 10) rfl (fun c3 => (Z_lconst (dX12_wantName 17) rfl (Z_lstore_n (dX12_wantName 18) (Nat.le_of_ble_eq_true rfl) rfl (Z_aload_n (dX12_wantName 19) rfl (Z_gIM (x := (iv 0 46)) (dX12_wantName 20) lk_X12_370 sM0 (Or.inl rfl) rfl (Z_istore_n (dX12_wantName 21) (Nat.le_of_ble_eq_true rfl) rfl ((h.2 c2).2.1 c3))))))) (fun c4 => (Z_aload_n (dX12_wantName 11) rfl (Z_iconst (dX12_wantName 12) ⟨by decide, by decide⟩ (Z_cVM (As := [vi 2]) (S := []) (dX12_wantName 13) lk_X12_401 sM0 (by decide) rfl rfl (Nat.le_of_ble_eq_true rfl) (Nat.le_of_ble_eq_true rfl) (M_fail  ((Z_istore_n (dX12_wantName 14) (Nat.le_of_ble_eq_true rfl) rfl (Z_iconst (dX12_wantName 15) ⟨by decide, by decide⟩ (Z_ireturn (dX12_wantName 16) rfl ((h.2 c2).2.2 c4))))))))))))))))))))))
set_option maxRecDepth 20000 in
theorem sX12_wantName_37 {G : ZG} {d : Nat} {iv : Nat → Nat → Int} {K : Option AV → AH → Prop} {x1 x3 : Int} (h : ((iv 0 47) ≤ x3 → (Z G mX12_wantName (d + 2) 0 0 65 [vr (some 0), vl x1, vu, vi 0, vu] [] (mkM iv) K)) ∧ (x3 < (iv 0 47) → ((0 ≤ x3) ∧ ((iv 0 44 ≤ 600) ∧ ((∀ k : Int, 0 ≤ k → k < 600 → -128 ≤ iv 29 k.toNat ∧ iv 29 k.toNat ≤ 127) ∧ ((-2147483648 ≤ (x3 + 1) ∧ (x3 + 1) ≤ 2147483647) ∧ (Z G mX12_wantName (d + 2) 0 0 37 [vr (some 0), vl (zlor (zlshl x1 8) (sgn (iv 29) (iv 0 44) x3)), vu, vi (x3 + 1), vu] [] (mkM iv) K))))))) : Z G mX12_wantName (d + 2) 0 0 37 [vr (some 0), vl x1, vu, vi x3, vu] [] (mkM iv) K := (Z_iload_n (dX12_wantName 22) rfl (Z_aload_n (dX12_wantName 23) rfl (Z_gIM (x := (iv 0 47)) (dX12_wantName 24) lk_X12_364 sM0 (Or.inl rfl) rfl (Z_icmp_ge (dX12_wantName 25) rfl (fun c1 => (Z_iconst (dX12_wantName 37) ⟨by decide, by decide⟩ (Z_istore_n (dX12_wantName 38) (Nat.le_of_ble_eq_true rfl) rfl (h.1 c1)))) (fun c2 => (Z_lload_n (dX12_wantName 26) rfl (Z_bipush (dX12_wantName 27) ⟨by decide, by decide⟩ (Z_lshl (dX12_wantName 28) (Z_aload_n (dX12_wantName 29) rfl (Z_iload_n (dX12_wantName 30) rfl (Z_cVM (As := [vi x3]) (S := [vl (zlshl x1 8)]) (dX12_wantName 31) lk_X12_367 sM0 (by decide) rfl rfl (Nat.le_of_ble_eq_true rfl) (Nat.le_of_ble_eq_true rfl) (M_sign  (h.2 c2).1 (h.2 c2).2.1 (h.2 c2).2.2.1 ((Z_i2l (dX12_wantName 32) (Z_lor (dX12_wantName 33) (Z_lstore_n (dX12_wantName 34) (Nat.le_of_ble_eq_true rfl) rfl (Z_iinc (dX12_wantName 35) rfl (Nat.le_of_ble_eq_true rfl) (h.2 c2).2.2.2.1 rfl (Z_goto (dX12_wantName 36) rfl (h.2 c2).2.2.2.2))))))))))))))))))
set_option maxRecDepth 20000 in
theorem sX12_wantName_65 {G : ZG} {d : Nat} {iv : Nat → Nat → Int} {K : Option AV → AH → Prop} {x1 x3 : Int} (h : ((iv 0 71) ≤ x3 → (Z G mX12_wantName (d + 2) 0 0 90 [vr (some 0), vl x1, vu, vi x3, vu] [] (mkM iv) K)) ∧ (x3 < (iv 0 71) → ((0 ≤ x3 ∧ x3 < (8 : Nat)) ∧ (((zcmp (iv 44 ((x3).toNat)) x1) = 0 → (Z G mX12_wantName (d + 2) 0 0 90 [vr (some 0), vl x1, vu, vi x3, vu] [] (mkM iv) K)) ∧ (¬ (zcmp (iv 44 ((x3).toNat)) x1) = 0 → ((-2147483648 ≤ (x3 + 1) ∧ (x3 + 1) ≤ 2147483647) ∧ (Z G mX12_wantName (d + 2) 0 0 65 [vr (some 0), vl x1, vu, vi (x3 + 1), vu] [] (mkM iv) K))))))) : Z G mX12_wantName (d + 2) 0 0 65 [vr (some 0), vl x1, vu, vi x3, vu] [] (mkM iv) K := (Z_iload_n (dX12_wantName 39) rfl (Z_aload_n (dX12_wantName 40) rfl (Z_gIM (x := (iv 0 71)) (dX12_wantName 41) lk_X12_407 sM0 (Or.inl rfl) rfl (Z_icmp_ge (dX12_wantName 42) rfl (fun c1 => (h.1 c1)) (fun c2 => (Z_aload_n (dX12_wantName 43) rfl (Z_gRM (r := (some 44)) (dX12_wantName 44) lk_X12_159 sM0 rfl rfl (Z_iload_n (dX12_wantName 45) rfl (Z_llM (x := (iv 44 ((x3).toNat))) (dX12_wantName 46) sM44 (h.2 c2).1 rfl (Z_lload_n (dX12_wantName 47) rfl (Z_lcmp (dX12_wantName 48) (Z_if_eq (dX12_wantName 49) rfl (fun c3 => ((h.2 c2).2.1 c3)) (fun c4 => (Z_iinc (dX12_wantName 50) rfl (Nat.le_of_ble_eq_true rfl) ((h.2 c2).2.2 c4).1 rfl (Z_goto (dX12_wantName 51) rfl ((h.2 c2).2.2 c4).2)))))))))))))))
set_option maxRecDepth 20000 in
theorem sX12_wantName_90 {G : ZG} {d : Nat} {iv : Nat → Nat → Int} {K : Option AV → AH → Prop} {x1 x3 : Int} (h : (¬ x3 = 8 → ((¬ x3 = (iv 0 71) → ((0 ≤ iv 0 47 ∧ iv 0 47 ≤ iv 0 44) ∧ ((iv 0 44 ≤ 600) ∧ ((bOK (iv 29)) ∧ (K (some (vi x3)) (mkM (nx iv))))))) ∧ (x3 = (iv 0 71) → ((0 ≤ x3 ∧ x3 < (8 : Nat)) ∧ ((-2147483648 ≤ ((iv 0 71) + 1) ∧ ((iv 0 71) + 1) ≤ 2147483647) ∧ ((0 ≤ (iu (iu iv 44 ((x3).toNat) x1) 0 71 ((iv 0 71) + 1)) 0 47 ∧ (iu (iu iv 44 ((x3).toNat) x1) 0 71 ((iv 0 71) + 1)) 0 47 ≤ (iu (iu iv 44 ((x3).toNat) x1) 0 71 ((iv 0 71) + 1)) 0 44) ∧ (((iu (iu iv 44 ((x3).toNat) x1) 0 71 ((iv 0 71) + 1)) 0 44 ≤ 600) ∧ ((bOK ((iu (iu iv 44 ((x3).toNat) x1) 0 71 ((iv 0 71) + 1)) 29)) ∧ (K (some (vi x3)) (mkM (nx (iu (iu iv 44 ((x3).toNat) x1) 0 71 ((iv 0 71) + 1))))))))))))) ∧ (x3 = 8 → (K (some (vi (-1))) (mkM (mfail 3 iv))))) : Z G mX12_wantName (d + 2) 0 0 90 [vr (some 0), vl x1, vu, vi x3, vu] [] (mkM iv) K := (Z_iload_n (dX12_wantName 52) rfl (Z_bipush (dX12_wantName 53) ⟨by decide, by decide⟩ (Z_icmp_ne (dX12_wantName 54) rfl (fun c1 => (Z_iload_n (dX12_wantName 61) rfl (Z_aload_n (dX12_wantName 62) rfl (Z_gIM (x := (iv 0 71)) (dX12_wantName 63) lk_X12_407 sM0 (Or.inl rfl) rfl (Z_icmp_ne (dX12_wantName 64) rfl (fun c3 => (Z_aload_n (dX12_wantName 76) rfl (Z_cVM (As := []) (S := []) (dX12_wantName 77) lk_X12_404 sM0 (by decide) rfl rfl (Nat.le_of_ble_eq_true rfl) (Nat.le_of_ble_eq_true rfl) (M_next  ((h.1 c1).1 c3).1 ((h.1 c1).1 c3).2.1 ((h.1 c1).1 c3).2.2.1 ((Z_iload_n (dX12_wantName 78) rfl (Z_ireturn (dX12_wantName 79) rfl ((h.1 c1).1 c3).2.2.2))))))) (fun c4 => (Z_aload_n (dX12_wantName 65) rfl (Z_gRM (r := (some 44)) (dX12_wantName 66) lk_X12_159 sM0 rfl rfl (Z_iload_n (dX12_wantName 67) rfl (Z_lload_n (dX12_wantName 68) rfl (Z_lastM (dX12_wantName 69) sM44 ((h.1 c1).2 c4).1 (Z_aload_n (dX12_wantName 70) rfl (Z_dup (dX12_wantName 71) rfl (Z_gIM (x := (iv 0 71)) (dX12_wantName 72) lk_X12_407 sM0 (Or.inl rfl) ((iu_o (by decide)).trans rfl) (Z_iconst (dX12_wantName 73) ⟨by decide, by decide⟩ (Z_iadd (dX12_wantName 74) ((h.1 c1).2 c4).2.1 (Z_putIM (dX12_wantName 75) lk_X12_407 sM0 rfl (Or.inl rfl) (Z_aload_n (dX12_wantName 76) rfl (Z_cVM (As := []) (S := []) (dX12_wantName 77) lk_X12_404 sM0 (by decide) rfl rfl (Nat.le_of_ble_eq_true rfl) (Nat.le_of_ble_eq_true rfl) (M_next  ((h.1 c1).2 c4).2.2.1 ((h.1 c1).2 c4).2.2.2.1 ((h.1 c1).2 c4).2.2.2.2.1 ((Z_iload_n (dX12_wantName 78) rfl (Z_ireturn (dX12_wantName 79) rfl ((h.1 c1).2 c4).2.2.2.2.2))))))))))))))))))))))) (fun c2 => (Z_aload_n (dX12_wantName 55) rfl (Z_iconst (dX12_wantName 56) ⟨by decide, by decide⟩ (Z_cVM (As := [vi 3]) (S := []) (dX12_wantName 57) lk_X12_401 sM0 (by decide) rfl rfl (Nat.le_of_ble_eq_true rfl) (Nat.le_of_ble_eq_true rfl) (M_fail  ((Z_istore (dX12_wantName 58) (Nat.le_of_ble_eq_true rfl) rfl (Z_iconst (dX12_wantName 59) ⟨by decide, by decide⟩ (Z_ireturn (dX12_wantName 60) rfl (h.2 c2)))))))))))))
theorem zlc {x s : Nat} (hx : x < 2 ^ 55) (hs : s < 256) : zlor (zlshl (x : Int) 8) (s : Int) = ((256 * x + s : Nat) : Int) := by
  unfold zlor zlshl
  rw [Int64.ofInt_toInt]
  have sm : (((Int32.ofInt 8).toInt64 &&& 63).toBitVec.smod 64).toNat = 8 := by decide +kernel
  have tb : ∀ n : Nat, (Int64.ofInt (n : Int)).toBitVec = BitVec.ofNat 64 n := fun n => by rw [Int64.toBitVec_ofInt, BitVec.ofInt_natCast]
  have e : (Int64.ofInt (x : Int) <<< ((Int32.ofInt 8).toInt64 &&& 63) ||| Int64.ofInt (s : Int)).toBitVec.toNat = 256 * x + s := by
    rw [Int64.toBitVec_or, Int64.toBitVec_shiftLeft, tb, tb, BitVec.toNat_or]
    show (BitVec.ofNat 64 x <<< (((Int32.ofInt 8).toInt64 &&& 63).toBitVec.smod 64).toNat).toNat ||| _ = _
    rw [sm, BitVec.toNat_shiftLeft, BitVec.toNat_ofNat, BitVec.toNat_ofNat, Nat.mod_eq_of_lt (by omega), Nat.mod_eq_of_lt (b := 2 ^ 64) (a := s) (by omega), Nat.shiftLeft_eq, Nat.mod_eq_of_lt (by omega), ← Nat.shiftLeft_eq, ← Nat.shiftLeft_add_eq_or_of_lt (i := 8) hs, Nat.shiftLeft_eq]
    omega
  have := BitVec.toInt_eq_toNat_of_lt (x := (Int64.ofInt (x : Int) <<< ((Int32.ofInt 8).toInt64 &&& 63) ||| Int64.ofInt (s : Int)).toBitVec) (by rw [e]; omega)
  rw [e] at this
  exact this
theorem pk_b {b : Nat → Int} {a : Int} : ∀ k : Nat, k ≤ 8 → (∀ j : Int, a ≤ j → j < a + k → isLt (b j.toNat) = true) → 0 ≤ pk b a k ∧ pk b a k < (256 : Int) ^ k
  | 0, _, _ => by unfold pk; decide
  | k + 1, hk, hd => by
    have ih := pk_b (b := b) (a := a) k (by omega) (fun j p q => hd j p (by omega))
    have d := hd (a + k) (by omega) (by omega)
    unfold isLt at d
    rw [decide_eq_true_iff] at d
    unfold pk
    rw [Int.pow_succ]
    omega
theorem pk_inj {b : Nat → Int} {a a' : Int} : ∀ k k' : Nat, (∀ j : Int, a ≤ j → j < a + k → isLt (b j.toNat) = true) → (∀ j : Int, a' ≤ j → j < a' + k' → isLt (b j.toNat) = true) → pk b a k = pk b a' k' → k = k' ∧ ∀ j : Nat, j < k → b (a + j).toNat = b (a' + j).toNat := by
  have pos : ∀ (x : Int) (k : Nat), (∀ j : Int, x ≤ j → j < x + k → isLt (b j.toNat) = true) → 0 ≤ pk b x k := by
    intro x k
    induction k with
    | zero => intro _; exact Int.le_refl _
    | succ k ih =>
      intro hd
      have d := hd (x + k) (by omega) (by omega)
      unfold isLt at d
      rw [decide_eq_true_iff] at d
      have := ih (fun j p q => hd j p (by omega))
      unfold pk; omega
  intro k
  induction k with
  | zero =>
    intro k' h h' e
    cases k' with
    | zero => exact ⟨rfl, fun j q => by omega⟩
    | succ k' =>
      exfalso
      have d := h' (a' + k') (by omega) (by omega)
      unfold isLt at d
      rw [decide_eq_true_iff] at d
      have := pos a' k' (fun j p q => h' j p (by omega))
      unfold pk at e; omega
  | succ k ih =>
    intro k' h h' e
    have d := h (a + k) (by omega) (by omega)
    unfold isLt at d
    rw [decide_eq_true_iff] at d
    have p0 := pos a k (fun j p q => h j p (by omega))
    cases k' with
    | zero => exfalso; unfold pk at e; omega
    | succ k' =>
      have d' := h' (a' + k') (by omega) (by omega)
      unfold isLt at d'
      rw [decide_eq_true_iff] at d'
      have p1 := pos a' k' (fun j p q => h' j p (by omega))
      unfold pk at e
      obtain ⟨e1, e2⟩ := ih k' (fun j p q => h j p (by omega)) (fun j p q => h' j p (by omega)) (by omega)
      subst e1
      refine ⟨rfl, fun j q => ?_⟩
      by_cases z : j = k
      · subst z; omega
      · exact e2 j (by omega)
theorem pk_cg {b : Nat → Int} {a a' : Int} : ∀ k : Nat, (∀ j : Nat, j < k → b (a + j).toNat = b (a' + j).toNat) → pk b a k = pk b a' k
  | 0, _ => rfl
  | k + 1, h => by unfold pk; rw [pk_cg k (fun j q => h j (by omega)), h k (by omega)]

