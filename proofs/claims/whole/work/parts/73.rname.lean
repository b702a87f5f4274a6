/-! ===== reading in step: a name ===== -/
def nmI (m : Nat → Nat → Int) (N : Int) : Int := if ffirst (fun i => m 44 i.toNat = N) 0 (m 0 71).toNat = -1 then m 0 71 else ffirst (fun i => m 44 i.toNat = N) 0 (m 0 71).toNat
def nmP (m : Nat → Nat → Int) : Int := pk (m 29) (m 0 46) (m 0 47 - m 0 46).toNat
def nameR (m : Nat → Nat → Int) (r : Int) (v : Nat → Nat → Int) : Prop := (¬ (m 0 45 = 2 ∧ m 0 47 - m 0 46 ≤ 8) ∧ r = -1 ∧ v = mfail 2 m) ∨ ((m 0 45 = 2 ∧ m 0 47 - m 0 46 ≤ 8) ∧ ((nmI m (nmP m) = 8 ∧ r = -1 ∧ v = mfail 3 m) ∨ (nmI m (nmP m) ≠ 8 ∧ nmI m (nmP m) = m 0 71 ∧ r = nmI m (nmP m) ∧ v = nx (iu (iu m 44 (nmI m (nmP m)).toNat (nmP m)) 0 71 (m 0 71 + 1))) ∨ (nmI m (nmP m) ≠ 8 ∧ nmI m (nmP m) ≠ m 0 71 ∧ r = nmI m (nmP m) ∧ v = nx m)))
theorem nmI_f {m : Nat → Nat → Int} {N x : Int} (h : 0 ≤ x ∧ x ≤ m 0 71) (h1 : ∀ i : Int, 0 ≤ i → i < x → m 44 i.toNat ≠ N) (h2 : x < m 0 71 → m 44 x.toNat = N) : nmI m N = x := by
  unfold nmI
  rcases ffirst_r (P := fun i => m 44 i.toNat = N) (m 0 71).toNat 0 (Int.le_refl _) with e | ⟨a, b, c⟩
  · rw [if_pos e]
    rw [ffirst_none _ _ (Int.le_refl _)] at e
    by_cases g : x < m 0 71
    · exact absurd (h2 g) (e x h.1 (by omega))
    · omega
  · rw [if_neg (by omega)]
    have mn : ∀ (k : Nat) (s : Int), 0 ≤ s → ∀ i : Int, s ≤ i → i < ffirst (fun i => m 44 i.toNat = N) s k → ¬ m 44 i.toNat = N := by
      intro k
      induction k with
      | zero => intro s s0 i i0 i1; unfold ffirst at i1; omega
      | succ k ih =>
        intro s s0 i i0 i1
        unfold ffirst at i1
        split at i1
        · omega
        · rename_i g
          by_cases e : i = s
          · rw [e]; exact g
          · exact ih (s + 1) (by omega) i (by omega) i1
    generalize hf : ffirst (fun i => m 44 i.toNat = N) 0 (m 0 71).toNat = f at *
    rcases Int.lt_trichotomy f x with g | g | g
    · exact absurd c (h1 f a g)
    · exact g
    · have := mn (m 0 71).toNat 0 (by omega) x h.1 (by rw [hf]; exact g)
      exact absurd (h2 (by omega)) this
theorem pk_h {b : Nat → Int} {a : Int} : ∀ k : Nat, (∀ j : Int, a ≤ j → j < a + k → isLt (b j.toNat) = true) → 0 ≤ pk b a k ∧ 2 * pk b a k + 1 ≤ (256 : Int) ^ k
  | 0, _ => by unfold pk; decide
  | k + 1, hd => by
    have ih := pk_h (b := b) (a := a) k (fun j p q => hd j p (by omega))
    have d := hd (a + k) (by omega) (by omega)
    unfold isLt at d
    rw [decide_eq_true_iff] at d
    unfold pk
    rw [Int.pow_succ]
    omega
theorem M_wantName {G : ZG} {d : Nat} {iv : Nat → Nat → Int} {K : Option AV → AH → Prop} (h : TxM iv) (hl : iv 0 45 = 2 → ∀ k : Int, iv 0 46 ≤ k → k < iv 0 47 → isLt (iv 29 k.toNat) = true) (hn : 0 ≤ iv 0 71 ∧ iv 0 71 ≤ 8) (k : ∀ (r : Int) (v : Nat → Nat → Int), nameR iv r v → K (some (vi r)) (mkM v)) : Z G mX12_wantName (d + 2) 0 0 0 [vr (some 0), vu, vu, vu, vu] [] (mkM iv) K := by
  obtain ⟨hr, hb⟩ := h
  apply sX12_wantName_0
  refine ⟨fun n => k _ _ (Or.inl ⟨fun z => n z.1, rfl, rfl⟩), fun e => ⟨by omega, fun le => ?_, fun gt => k _ _ (Or.inl ⟨fun z => by omega, rfl, rfl⟩)⟩⟩
  have lt := hl e
  -- at the end of the search
  have fin : ∀ x : Int, nmI iv (nmP iv) = x → (0 ≤ x ∧ x ≤ iv 0 71) → Z G mX12_wantName (d + 2) 0 0 90 [vr (some 0), vl (nmP iv), vu, vi x, vu] [] (mkM iv) K := by
    intro x ex rx
    apply sX12_wantName_90
    rw [iu_k (i := 0) (j := 47) (by decide), iu_k (i := 0) (j := 44) (by decide), iu_o (i := 0) (by decide), iu_o (i := 0) (by decide)]
    refine ⟨fun n8 => ⟨fun nn => ⟨by omega, hr.2.2.2, hb, k _ _ (Or.inr ⟨⟨e, le⟩, Or.inr (Or.inr ⟨by omega, by omega, ex.symm, rfl⟩)⟩)⟩, fun ee => ⟨by omega, by omega, by omega, hr.2.2.2, hb, ?_⟩⟩, fun e8 => k _ _ (Or.inr ⟨⟨e, le⟩, Or.inl ⟨by omega, rfl, rfl⟩⟩)⟩
    refine k _ _ (Or.inr ⟨⟨e, le⟩, Or.inr (Or.inl ⟨by omega, by omega, ex.symm, ?_⟩)⟩)
    rw [ex]
  refine lp_up (P := fun p x => Z G mX12_wantName (d + 2) 0 0 37 [vr (some 0), vl x, vu, vi p, vu] [] (mkM iv) K) (iv 0 47) (fun p x => iv 0 46 ≤ p ∧ x = pk (iv 29) (iv 0 46) (p - iv 0 46).toNat) ?_ ?_ (iv 0 46) 0 hr.2.1 ⟨Int.le_refl _, by rw [Int.sub_self]; rfl⟩
  · rintro x ⟨-, ex⟩
    apply sX12_wantName_37
    refine ⟨fun _ => ?_, fun z => by omega⟩
    have ex : x = nmP iv := ex
    subst ex
    refine lp_up (P := fun i (_ : Unit) => Z G mX12_wantName (d + 2) 0 0 65 [vr (some 0), vl (nmP iv), vu, vi i, vu] [] (mkM iv) K) (iv 0 71) (fun i _ => 0 ≤ i ∧ ∀ q : Int, 0 ≤ q → q < i → iv 44 q.toNat ≠ nmP iv) ?_ ?_ 0 () hn.1 ⟨by omega, fun q a b => by omega⟩
    · rintro - ⟨-, q⟩
      apply sX12_wantName_65
      exact ⟨fun _ => fin _ (nmI_f ⟨hn.1, Int.le_refl _⟩ q (fun z => by omega)) ⟨hn.1, Int.le_refl _⟩, fun z => by omega⟩
    · rintro i - hi ⟨i0, q⟩ ih
      apply sX12_wantName_65
      have zc : ∀ a b : Int, zcmp a b = 0 ↔ a = b := by
        intro a b; unfold zcmp
        split
        · omega
        · split <;> omega
      rw [zc]
      refine ⟨fun z => by omega, fun _ => ⟨by omega, fun c => fin i (nmI_f (by omega) q (fun _ => c)) (by omega), fun c => ⟨by omega, ih () ⟨by omega, fun p a b => ?_⟩⟩⟩⟩
      by_cases g : p = i
      · rw [g]; exact c
      · exact q p a (by omega)
  · rintro p x hp ⟨p0, ex⟩ ih
    apply sX12_wantName_37
    have l := lt p p0 hp
    unfold isLt at l
    rw [decide_eq_true_iff] at l
    have es : sgn (iv 29) (iv 0 44) p = iv 29 p.toNat := by unfold sgn; rw [if_pos (by omega)]; omega
    have bd := pk_h (b := iv 29) (a := iv 0 46) (p - iv 0 46).toNat (fun j a b => lt j a (by omega))
    have b55 : pk (iv 29) (iv 0 46) (p - iv 0 46).toNat < 2 ^ 55 := by
      have : (p - iv 0 46).toNat ≤ 7 := by omega
      have c : (256 : Int) ^ (p - iv 0 46).toNat ≤ 2 ^ 56 := by
        generalize (p - iv 0 46).toNat = z at this
        have u : z = 0 ∨ z = 1 ∨ z = 2 ∨ z = 3 ∨ z = 4 ∨ z = 5 ∨ z = 6 ∨ z = 7 := by omega
        rcases u with e | e | e | e | e | e | e | e <;> subst e <;> decide
      omega
    rw [es]
    refine ⟨fun z => by omega, fun _ => ⟨by omega, hr.2.2.2, hb, by omega, ih _ ⟨by omega, ?_⟩⟩⟩
    rw [show (p + 1 - iv 0 46).toNat = (p - iv 0 46).toNat + 1 by omega]
    unfold pk
    rw [show (iv 0 46 + (((p - iv 0 46).toNat : Nat) : Int)).toNat = p.toNat by omega, ex]
    generalize pk (iv 29) (iv 0 46) (p - iv 0 46).toNat = N at *
    have := zlc (x := N.toNat) (s := (iv 29 p.toNat).toNat) (by omega) (by omega)
    rw [show ((N.toNat : Nat) : Int) = N by omega, show (((iv 29 p.toNat).toNat : Nat) : Int) = iv 29 p.toNat by omega] at this
    rw [this]; omega
set_option maxRecDepth 20000 in
theorem sX6_isName_0 {G : ZG} {d : Nat} {iv : Nat → Nat → Int} {K : Option AV → AH → Prop} {rv : Nat → Nat → Option Nat} {o0 : Nat} {x1 : Int} (hR : RC rv) (h_o0 : isSh o0) (ht : rv o0 4 = some 54) (h : (0 ≤ x1 ∧ x1 < (8 : Nat)) ∧ ((-2147483648 ≤ ((iv o0 6) - (iv o0 8)) ∧ ((iv o0 6) - (iv o0 8)) ≤ 2147483647) ∧ (((iv (o0 + 63) ((x1).toNat)) = ((iv o0 6) - (iv o0 8)) → (Z G mX6_isName d 0 0 22 [vr (some o0), vi x1, vi 0] [] (mkC iv rv) K)) ∧ (¬ (iv (o0 + 63) ((x1).toNat)) = ((iv o0 6) - (iv o0 8)) → (K (some (vi 0)) (mkC iv rv)))))) : Z G mX6_isName d 0 0 0 [vr (some o0), vi x1, vu] [] (mkC iv rv) K := (Z_aload_n (dX6_isName 0) rfl (Z_gRC (r := (some (o0 + 63))) (dX6_isName 1) lk_X6_22 (Sh_sh h_o0) rfl (Sh_r2 hR h_o0) (Z_iload_n (dX6_isName 2) rfl (Z_ilC (x := (iv (o0 + 63) ((x1).toNat))) (dX6_isName 3) (Sh_a63 h_o0) h.1 rfl (Z_aload_n (dX6_isName 4) rfl (Z_gIC (x := (iv o0 6)) (dX6_isName 5) lk_X6_39 (Sh_sh h_o0) (Or.inl rfl) rfl (Z_aload_n (dX6_isName 6) rfl (Z_gIC (x := (iv o0 8)) (dX6_isName 7) lk_X6_71 (Sh_sh h_o0) (Or.inl rfl) rfl (Z_isub (dX6_isName 8) h.2.1 (Z_icmp_eq (dX6_isName 9) rfl (fun c1 => (Z_iconst (dX6_isName 12) ⟨by decide, by decide⟩ (Z_istore_n (dX6_isName 13) (Nat.le_of_ble_eq_true rfl) rfl (h.2.2.1 c1)))) (fun c2 => (Z_iconst (dX6_isName 10) ⟨by decide, by decide⟩ (Z_zreturn (dX6_isName 11) rfl (Or.inl rfl) (h.2.2.2 c2))))))))))))))
set_option maxRecDepth 20000 in
theorem sX6_isName_22 {G : ZG} {d : Nat} {iv : Nat → Nat → Int} {K : Option AV → AH → Prop} {rv : Nat → Nat → Option Nat} {o0 : Nat} {x1 x2 : Int} (hR : RC rv) (h_o0 : isSh o0) (ht : rv o0 4 = some 54) (h : (0 ≤ x1 ∧ x1 < (8 : Nat)) ∧ (((iv (o0 + 63) ((x1).toNat)) ≤ x2 → (K (some (vi 1)) (mkC iv rv))) ∧ (x2 < (iv (o0 + 63) ((x1).toNat)) → ((0 ≤ x1 ∧ x1 < (8 : Nat)) ∧ ((-2147483648 ≤ ((iv (o0 + 62) ((x1).toNat)) + x2) ∧ ((iv (o0 + 62) ((x1).toNat)) + x2) ≤ 2147483647) ∧ ((0 ≤ ((iv (o0 + 62) ((x1).toNat)) + x2) ∧ ((iv (o0 + 62) ((x1).toNat)) + x2) < (600 : Nat)) ∧ ((-2147483648 ≤ ((iv o0 8) + x2) ∧ ((iv o0 8) + x2) ≤ 2147483647) ∧ ((0 ≤ ((iv o0 8) + x2) ∧ ((iv o0 8) + x2) < (600 : Nat)) ∧ (((iv 54 (((iv (o0 + 62) ((x1).toNat)) + x2).toNat)) = (iv 54 (((iv o0 8) + x2).toNat)) → ((-2147483648 ≤ (x2 + 1) ∧ (x2 + 1) ≤ 2147483647) ∧ (Z G mX6_isName d 0 0 22 [vr (some o0), vi x1, vi (x2 + 1)] [] (mkC iv rv) K))) ∧ (¬ (iv 54 (((iv (o0 + 62) ((x1).toNat)) + x2).toNat)) = (iv 54 (((iv o0 8) + x2).toNat)) → (K (some (vi 0)) (mkC iv rv)))))))))))) : Z G mX6_isName d 0 0 22 [vr (some o0), vi x1, vi x2] [] (mkC iv rv) K := (Z_iload_n (dX6_isName 14) rfl (Z_aload_n (dX6_isName 15) rfl (Z_gRC (r := (some (o0 + 63))) (dX6_isName 16) lk_X6_22 (Sh_sh h_o0) rfl (Sh_r2 hR h_o0) (Z_iload_n (dX6_isName 17) rfl (Z_ilC (x := (iv (o0 + 63) ((x1).toNat))) (dX6_isName 18) (Sh_a63 h_o0) h.1 rfl (Z_icmp_ge (dX6_isName 19) rfl (fun c1 => (Z_iconst (dX6_isName 41) ⟨by decide, by decide⟩ (Z_zreturn (dX6_isName 42) rfl (Or.inr rfl) (h.2.1 c1)))) (fun c2 => (Z_aload_n (dX6_isName 20) rfl (Z_gRC (r := (some 54)) (dX6_isName 21) lk_X6_25 (Sh_sh h_o0) rfl ht (Z_aload_n (dX6_isName 22) rfl (Z_gRC (r := (some (o0 + 62))) (dX6_isName 23) lk_X6_18 (Sh_sh h_o0) rfl (Sh_r1 hR h_o0) (Z_iload_n (dX6_isName 24) rfl (Z_ilC (x := (iv (o0 + 62) ((x1).toNat))) (dX6_isName 25) (Sh_a62 h_o0) (h.2.2 c2).1 rfl (Z_iload_n (dX6_isName 26) rfl (Z_iadd (dX6_isName 27) (h.2.2 c2).2.1 (Z_blC (x := (iv 54 (((iv (o0 + 62) ((x1).toNat)) + x2).toNat))) (dX6_isName 28) sC54 (h.2.2 c2).2.2.1 rfl (Z_aload_n (dX6_isName 29) rfl (Z_gRC (r := (some 54)) (dX6_isName 30) lk_X6_25 (Sh_sh h_o0) rfl ht (Z_aload_n (dX6_isName 31) rfl (Z_gIC (x := (iv o0 8)) (dX6_isName 32) lk_X6_71 (Sh_sh h_o0) (Or.inl rfl) rfl (Z_iload_n (dX6_isName 33) rfl (Z_iadd (dX6_isName 34) (h.2.2 c2).2.2.2.1 (Z_blC (x := (iv 54 (((iv o0 8) + x2).toNat))) (dX6_isName 35) sC54 (h.2.2 c2).2.2.2.2.1 rfl (Z_icmp_eq (dX6_isName 36) rfl (fun c3 => (Z_iinc (dX6_isName 39) rfl (Nat.le_of_ble_eq_true rfl) ((h.2.2 c2).2.2.2.2.2.1 c3).1 rfl (Z_goto (dX6_isName 40) rfl ((h.2.2 c2).2.2.2.2.2.1 c3).2))) (fun c4 => (Z_iconst (dX6_isName 37) ⟨by decide, by decide⟩ (Z_zreturn (dX6_isName 38) rfl (Or.inl rfl) ((h.2.2 c2).2.2.2.2.2.2 c4))))))))))))))))))))))))))))
set_option maxRecDepth 20000 in
theorem sX6_readName_0 {G : ZG} {d : Nat} {iv : Nat → Nat → Int} {K : Option AV → AH → Prop} {rv : Nat → Nat → Option Nat} {o0 : Nat} (hR : RC rv) (h_o0 : isSh o0) (ht : rv o0 4 = some 54) (h : (¬ (iv o0 7) = 1 → (Z G mX6_misplaced d 0 0 0 [vr (some o0)] [] (mkC iv rv) (fun r A1 => Z G mX6_readName (d + 1) 0 0 26 [vr (some o0), vu] (r.toList ++ []) A1 K))) ∧ ((iv o0 7) = 1 → ((-2147483648 ≤ ((iv o0 6) - (iv o0 8)) ∧ ((iv o0 6) - (iv o0 8)) ≤ 2147483647) ∧ ((((iv o0 6) - (iv o0 8)) ≤ 8 → (Z G mX6_readName (d + 1) 0 0 30 [vr (some o0), vi 0] [] (mkC iv rv) K)) ∧ (8 < ((iv o0 6) - (iv o0 8)) → (Z G mX6_misplaced d 0 0 0 [vr (some o0)] [] (mkC iv rv) (fun r A1 => Z G mX6_readName (d + 1) 0 0 26 [vr (some o0), vu] (r.toList ++ []) A1 K))))))) : Z G mX6_readName (d + 1) 0 0 0 [vr (some o0), vu] [] (mkC iv rv) K := (Z_aload_n (dX6_readName 0) rfl (Z_gIC (x := (iv o0 7)) (dX6_readName 1) lk_X6_65 (Sh_sh h_o0) (Or.inl rfl) rfl (Z_iconst (dX6_readName 2) ⟨by decide, by decide⟩ (Z_icmp_ne (dX6_readName 3) rfl (fun c1 => (Z_aload_n (dX6_readName 11) rfl (Z_cVC (As := []) (S := []) (dX6_readName 12) lk_X6_68 (Sh_sh h_o0) (by decide) rfl rfl (Nat.le_of_ble_eq_true rfl) (Nat.le_of_ble_eq_true rfl) (h.1 c1)))) (fun c2 => (Z_aload_n (dX6_readName 4) rfl (Z_gIC (x := (iv o0 6)) (dX6_readName 5) lk_X6_39 (Sh_sh h_o0) (Or.inl rfl) rfl (Z_aload_n (dX6_readName 6) rfl (Z_gIC (x := (iv o0 8)) (dX6_readName 7) lk_X6_71 (Sh_sh h_o0) (Or.inl rfl) rfl (Z_isub (dX6_readName 8) (h.2 c2).1 (Z_bipush (dX6_readName 9) ⟨by decide, by decide⟩ (Z_icmp_le (dX6_readName 10) rfl (fun c3 => (Z_iconst (dX6_readName 15) ⟨by decide, by decide⟩ (Z_istore_n (dX6_readName 16) (Nat.le_of_ble_eq_true rfl) rfl ((h.2 c2).2.1 c3)))) (fun c4 => (Z_aload_n (dX6_readName 11) rfl (Z_cVC (As := []) (S := []) (dX6_readName 12) lk_X6_68 (Sh_sh h_o0) (by decide) rfl rfl (Nat.le_of_ble_eq_true rfl) (Nat.le_of_ble_eq_true rfl) ((h.2 c2).2.2 c4))))))))))))))))
set_option maxRecDepth 20000 in
theorem sX6_readName_26 {G : ZG} {d : Nat} {iv : Nat → Nat → Int} {K : Option AV → AH → Prop} {rv : Nat → Nat → Option Nat} (hR : RC rv) (h : K (some (vi (-1))) (mkC iv rv)) : Z G mX6_readName (d + 1) 0 0 26 [vu, vu] [] (mkC iv rv) K := (Z_iconst (dX6_readName 13) ⟨by decide, by decide⟩ (Z_ireturn (dX6_readName 14) rfl h))
set_option maxRecDepth 20000 in
theorem sX6_readName_30 {G : ZG} {d : Nat} {iv : Nat → Nat → Int} {K : Option AV → AH → Prop} {rv : Nat → Nat → Option Nat} {o0 : Nat} {x1 : Int} (hR : RC rv) (h_o0 : isSh o0) (ht : rv o0 4 = some 54) (h : ((iv o0 3) ≤ x1 → (Z G mX6_readName (d + 1) 0 0 52 [vr (some o0), vi x1] [] (mkC iv rv) K)) ∧ (x1 < (iv o0 3) → (Z G mX6_isName d 0 0 0 [vr (some o0), vi x1, vu] [] (mkC iv rv) (fun r A1 => Z G mX6_readName (d + 1) 0 0 43 [vr (some o0), vi x1] (r.toList ++ []) A1 K)))) : Z G mX6_readName (d + 1) 0 0 30 [vr (some o0), vi x1] [] (mkC iv rv) K := (Z_iload_n (dX6_readName 17) rfl (Z_aload_n (dX6_readName 18) rfl (Z_gIC (x := (iv o0 3)) (dX6_readName 19) lk_X6_42 (Sh_sh h_o0) (Or.inl rfl) rfl (Z_icmp_ge (dX6_readName 20) rfl (fun c1 => (h.1 c1)) (fun c2 => (Z_aload_n (dX6_readName 21) rfl (Z_iload_n (dX6_readName 22) rfl (Z_cVC (As := [vi x1]) (S := []) (dX6_readName 23) lk_X6_196 (Sh_sh h_o0) (by decide) rfl rfl (Nat.le_of_ble_eq_true rfl) (Nat.le_of_ble_eq_true rfl) (h.2 c2)))))))))
set_option maxRecDepth 20000 in
theorem sX6_readName_43 {G : ZG} {d : Nat} {iv : Nat → Nat → Int} {K : Option AV → AH → Prop} {rv : Nat → Nat → Option Nat} {o0 : Nat} {x1 y0 : Int} (hR : RC rv) (h_o0 : isSh o0) (ht : rv o0 4 = some 54) (h : (¬ y0 = 0 → (Z G mX6_readName (d + 1) 0 0 52 [vr (some o0), vi x1] [] (mkC iv rv) K)) ∧ (y0 = 0 → ((-2147483648 ≤ (x1 + 1) ∧ (x1 + 1) ≤ 2147483647) ∧ (Z G mX6_readName (d + 1) 0 0 30 [vr (some o0), vi (x1 + 1)] [] (mkC iv rv) K)))) : Z G mX6_readName (d + 1) 0 0 43 [vr (some o0), vi x1] [vi y0] (mkC iv rv) K := (Z_if_ne (dX6_readName 24) rfl (fun c1 => (h.1 c1)) (fun c2 => (Z_iinc (dX6_readName 25) rfl (Nat.le_of_ble_eq_true rfl) (h.2 c2).1 rfl (Z_goto (dX6_readName 26) rfl (h.2 c2).2))))
set_option maxRecDepth 20000 in
theorem sX6_readName_52 {G : ZG} {d : Nat} {iv : Nat → Nat → Int} {K : Option AV → AH → Prop} {rv : Nat → Nat → Option Nat} {o0 : Nat} {x1 : Int} (hR : RC rv) (h_o0 : isSh o0) (ht : rv o0 4 = some 54) (h : (x1 < 8 → ((¬ x1 = (iv o0 3) → ((0 ≤ iv o0 6 ∧ iv o0 6 ≤ iv o0 5) ∧ ((iv o0 5 ≤ 600) ∧ ((bOK (iv 54)) ∧ ((∀ (v5 : Nat → Nat → Int), (aF iv v5 o0 ∧ tkC iv v5 o0) → (K (some (vi x1)) (mkC v5 rv)))))))) ∧ (x1 = (iv o0 3) → ((0 ≤ x1 ∧ x1 < (8 : Nat)) ∧ ((-2147483648 ≤ ((iv o0 6) - (iv o0 8)) ∧ ((iv o0 6) - (iv o0 8)) ≤ 2147483647) ∧ ((0 ≤ x1 ∧ x1 < (8 : Nat)) ∧ ((-2147483648 ≤ ((iv o0 3) + 1) ∧ ((iv o0 3) + 1) ≤ 2147483647) ∧ ((0 ≤ (iu (iu (iu iv (o0 + 62) ((x1).toNat) (iv o0 8)) (o0 + 63) ((x1).toNat) ((iv o0 6) - (iv o0 8))) o0 3 ((iv o0 3) + 1)) o0 6 ∧ (iu (iu (iu iv (o0 + 62) ((x1).toNat) (iv o0 8)) (o0 + 63) ((x1).toNat) ((iv o0 6) - (iv o0 8))) o0 3 ((iv o0 3) + 1)) o0 6 ≤ (iu (iu (iu iv (o0 + 62) ((x1).toNat) (iv o0 8)) (o0 + 63) ((x1).toNat) ((iv o0 6) - (iv o0 8))) o0 3 ((iv o0 3) + 1)) o0 5) ∧ (((iu (iu (iu iv (o0 + 62) ((x1).toNat) (iv o0 8)) (o0 + 63) ((x1).toNat) ((iv o0 6) - (iv o0 8))) o0 3 ((iv o0 3) + 1)) o0 5 ≤ 600) ∧ ((bOK ((iu (iu (iu iv (o0 + 62) ((x1).toNat) (iv o0 8)) (o0 + 63) ((x1).toNat) ((iv o0 6) - (iv o0 8))) o0 3 ((iv o0 3) + 1)) 54)) ∧ ((∀ (v7 : Nat → Nat → Int), (aF (iu (iu (iu iv (o0 + 62) ((x1).toNat) (iv o0 8)) (o0 + 63) ((x1).toNat) ((iv o0 6) - (iv o0 8))) o0 3 ((iv o0 3) + 1)) v7 o0 ∧ tkC (iu (iu (iu iv (o0 + 62) ((x1).toNat) (iv o0 8)) (o0 + 63) ((x1).toNat) ((iv o0 6) - (iv o0 8))) o0 3 ((iv o0 3) + 1)) v7 o0) → (K (some (vi x1)) (mkC v7 rv)))))))))))))) ∧ (8 ≤ x1 → (Z G mX6_blame d 0 0 0 [vr (some o0), vi 3] [] (mkC iv rv) (fun r A1 => Z G mX6_readName (d + 1) 0 0 63 [vr (some o0), vi x1] (r.toList ++ []) A1 K)))) : Z G mX6_readName (d + 1) 0 0 52 [vr (some o0), vi x1] [] (mkC iv rv) K := (Z_iload_n (dX6_readName 27) rfl (Z_bipush (dX6_readName 28) ⟨by decide, by decide⟩ (Z_icmp_lt (dX6_readName 29) rfl (fun c1 => (Z_iload_n (dX6_readName 35) rfl (Z_aload_n (dX6_readName 36) rfl (Z_gIC (x := (iv o0 3)) (dX6_readName 37) lk_X6_42 (Sh_sh h_o0) (Or.inl rfl) rfl (Z_icmp_ne (dX6_readName 38) rfl (fun c3 => (Z_aload_n (dX6_readName 60) rfl (Z_cVC (As := []) (S := []) (dX6_readName 61) lk_X6_54 (Sh_sh h_o0) (by decide) rfl rfl (Nat.le_of_ble_eq_true rfl) (Nat.le_of_ble_eq_true rfl) (C_advance hR h_o0 ht ((h.1 c1).1 c3).1 ((h.1 c1).1 c3).2.1 ((h.1 c1).1 c3).2.2.1 (fun v5 c6 => (Z_iload_n (dX6_readName 62) rfl (Z_ireturn (dX6_readName 63) rfl (((h.1 c1).1 c3).2.2.2 v5 c6)))))))) (fun c4 => (Z_aload_n (dX6_readName 39) rfl (Z_gRC (r := (some (o0 + 62))) (dX6_readName 40) lk_X6_18 (Sh_sh h_o0) rfl (Sh_r1 hR h_o0) (Z_iload_n (dX6_readName 41) rfl (Z_aload_n (dX6_readName 42) rfl (Z_gIC (x := (iv o0 8)) (dX6_readName 43) lk_X6_71 (Sh_sh h_o0) (Or.inl rfl) rfl (Z_iastC (dX6_readName 44) (Sh_a62 h_o0) ((h.1 c1).2 c4).1 (Z_aload_n (dX6_readName 45) rfl (Z_gRC (r := (some (o0 + 63))) (dX6_readName 46) lk_X6_22 (Sh_sh h_o0) rfl (Sh_r2 hR h_o0) (Z_iload_n (dX6_readName 47) rfl (Z_aload_n (dX6_readName 48) rfl (Z_gIC (x := (iv o0 6)) (dX6_readName 49) lk_X6_39 (Sh_sh h_o0) (Or.inl rfl) ((iu_o (by omega)).trans rfl) (Z_aload_n (dX6_readName 50) rfl (Z_gIC (x := (iv o0 8)) (dX6_readName 51) lk_X6_71 (Sh_sh h_o0) (Or.inl rfl) ((iu_o (by omega)).trans rfl) (Z_isub (dX6_readName 52) ((h.1 c1).2 c4).2.1 (Z_iastC (dX6_readName 53) (Sh_a63 h_o0) ((h.1 c1).2 c4).2.2.1 (Z_aload_n (dX6_readName 54) rfl (Z_dup (dX6_readName 55) rfl (Z_gIC (x := (iv o0 3)) (dX6_readName 56) lk_X6_42 (Sh_sh h_o0) (Or.inl rfl) ((iu_o (by omega)).trans ((iu_o (by omega)).trans rfl)) (Z_iconst (dX6_readName 57) ⟨by decide, by decide⟩ (Z_iadd (dX6_readName 58) ((h.1 c1).2 c4).2.2.2.1 (Z_putIC (dX6_readName 59) lk_X6_42 (Sh_sh h_o0) rfl (Or.inl rfl) (Z_aload_n (dX6_readName 60) rfl (Z_cVC (As := []) (S := []) (dX6_readName 61) lk_X6_54 (Sh_sh h_o0) (by decide) rfl rfl (Nat.le_of_ble_eq_true rfl) (Nat.le_of_ble_eq_true rfl) (C_advance hR h_o0 ht ((h.1 c1).2 c4).2.2.2.2.1 ((h.1 c1).2 c4).2.2.2.2.2.1 ((h.1 c1).2 c4).2.2.2.2.2.2.1 (fun v7 c8 => (Z_iload_n (dX6_readName 62) rfl (Z_ireturn (dX6_readName 63) rfl (((h.1 c1).2 c4).2.2.2.2.2.2.2 v7 c8)))))))))))))))))))))))))))))))))) (fun c2 => (Z_aload_n (dX6_readName 30) rfl (Z_iconst (dX6_readName 31) ⟨by decide, by decide⟩ (Z_cVC (As := [vi 3]) (S := []) (dX6_readName 32) lk_X6_99 (Sh_sh h_o0) (by decide) rfl rfl (Nat.le_of_ble_eq_true rfl) (Nat.le_of_ble_eq_true rfl) (h.2 c2))))))))
set_option maxRecDepth 20000 in
theorem sX6_readName_63 {G : ZG} {d : Nat} {iv : Nat → Nat → Int} {K : Option AV → AH → Prop} {rv : Nat → Nat → Option Nat} (hR : RC rv) (h : K (some (vi (-1))) (mkC iv rv)) : Z G mX6_readName (d + 1) 0 0 63 [vu, vu] [] (mkC iv rv) K := (Z_iconst (dX6_readName 33) ⟨by decide, by decide⟩ (Z_ireturn (dX6_readName 34) rfl h))

