/-! ===== the queue of the class ===== -/
set_option maxRecDepth 20000 in
theorem sX0_placeOf_0 {G : ZG} {d : Nat} {iv : Nat → Nat → Int} {K : Option AV → AH → Prop} {rv : Nat → Nat → Option Nat} {x1 x2 : Int} (hR : RC rv) (h : (-2147483648 ≤ (x1 * 400) ∧ (x1 * 400) ≤ 2147483647) ∧ ((-2147483648 ≤ ((x1 * 400) + x2) ∧ ((x1 * 400) + x2) ≤ 2147483647) ∧ ((0 ≤ ((x1 * 400) + x2) ∧ ((x1 * 400) + x2) < (800 : Nat)) ∧ (K (some (vi (iv 26 (((x1 * 400) + x2).toNat)))) (mkC iv rv))))) : Z G mX0_placeOf d 0 0 0 [vr (some 24), vi x1, vi x2] [] (mkC iv rv) K := (Z_aload_n (dX0_placeOf 0) rfl (Z_gRC (r := (some 26)) (dX0_placeOf 1) lk_X0_21 sC24 rfl (hR 33) (Z_iload_n (dX0_placeOf 2) rfl (Z_sipush (dX0_placeOf 3) ⟨by decide, by decide⟩ (Z_imul (dX0_placeOf 4) h.1 (Z_iload_n (dX0_placeOf 5) rfl (Z_iadd (dX0_placeOf 6) h.2.1 (Z_ilC (x := (iv 26 (((x1 * 400) + x2).toNat))) (dX0_placeOf 7) sC26 h.2.2.1 rfl (Z_ireturn (dX0_placeOf 8) rfl h.2.2.2)))))))))
set_option maxRecDepth 20000 in
theorem sX0_isKnown_0 {G : ZG} {d : Nat} {iv : Nat → Nat → Int} {K : Option AV → AH → Prop} {rv : Nat → Nat → Option Nat} {x1 x2 : Int} (hR : RC rv) (h : (x2 < 0 → (K (some (vi 0)) (mkC iv rv))) ∧ (0 ≤ x2 → ((0 ≤ x1 ∧ x1 < (2 : Nat)) ∧ (((iv 29 ((x1).toNat)) ≤ x2 → (K (some (vi 0)) (mkC iv rv))) ∧ (x2 < (iv 29 ((x1).toNat)) → (K (some (vi 1)) (mkC iv rv))))))) : Z G mX0_isKnown d 0 0 0 [vr (some 24), vi x1, vi x2] [] (mkC iv rv) K := (Z_iload_n (dX0_isKnown 0) rfl (Z_if_lt (dX0_isKnown 1) rfl (fun c1 => (Z_iconst (dX0_isKnown 10) ⟨by decide, by decide⟩ (Z_zreturn (dX0_isKnown 11) rfl (Or.inl rfl) (h.1 c1)))) (fun c2 => (Z_iload_n (dX0_isKnown 2) rfl (Z_aload_n (dX0_isKnown 3) rfl (Z_gRC (r := (some 29)) (dX0_isKnown 4) lk_X0_32 sC24 rfl (hR 36) (Z_iload_n (dX0_isKnown 5) rfl (Z_ilC (x := (iv 29 ((x1).toNat))) (dX0_isKnown 6) sC29 (h.2 c2).1 rfl (Z_icmp_ge (dX0_isKnown 7) rfl (fun c3 => (Z_iconst (dX0_isKnown 10) ⟨by decide, by decide⟩ (Z_zreturn (dX0_isKnown 11) rfl (Or.inl rfl) ((h.2 c2).2.1 c3)))) (fun c4 => (Z_iconst (dX0_isKnown 8) ⟨by decide, by decide⟩ (Z_goto (dX0_isKnown 9) rfl (Z_zreturn (dX0_isKnown 11) rfl (Or.inr rfl) ((h.2 c2).2.2 c4))))))))))))))
set_option maxRecDepth 20000 in
theorem sX0_enqueue_0 {G : ZG} {d : Nat} {iv : Nat → Nat → Int} {K : Option AV → AH → Prop} {rv : Nat → Nat → Option Nat} {x1 : Int} (hR : RC rv) (h : (-2147483648 ≤ ((iv 24 6) + (iv 24 7)) ∧ ((iv 24 6) + (iv 24 7)) ≤ 2147483647) ∧ ((0 ≤ (((iv 24 6) + (iv 24 7)).tmod 800) ∧ (((iv 24 6) + (iv 24 7)).tmod 800) < (800 : Nat)) ∧ ((0 ≤ x1 ∧ x1 < (800 : Nat)) ∧ ((-2147483648 ≤ ((iv 24 7) + 1) ∧ ((iv 24 7) + 1) ≤ 2147483647) ∧ (K none (mkC (iu (iu (iu iv 27 ((((iv 24 6) + (iv 24 7)).tmod 800).toNat) x1) 28 ((x1).toNat) 1) 24 7 ((iv 24 7) + 1)) rv)))))) : Z G mX0_enqueue d 0 0 0 [vr (some 24), vi x1] [] (mkC iv rv) K := (Z_aload_n (dX0_enqueue 0) rfl (Z_gRC (r := (some 27)) (dX0_enqueue 1) lk_X0_25 sC24 rfl (hR 34) (Z_aload_n (dX0_enqueue 2) rfl (Z_gIC (x := (iv 24 6)) (dX0_enqueue 3) lk_X0_63 sC24 (Or.inl rfl) rfl (Z_aload_n (dX0_enqueue 4) rfl (Z_gIC (x := (iv 24 7)) (dX0_enqueue 5) lk_X0_66 sC24 (Or.inl rfl) rfl (Z_iadd (dX0_enqueue 6) h.1 (Z_sipush (dX0_enqueue 7) ⟨by decide, by decide⟩ (Z_irem (dX0_enqueue 8) (by decide) (Z_iload_n (dX0_enqueue 9) rfl (Z_iastC (dX0_enqueue 10) sC27 h.2.1 (Z_aload_n (dX0_enqueue 11) rfl (Z_gRC (r := (some 28)) (dX0_enqueue 12) lk_X0_28 sC24 rfl (hR 35) (Z_iload_n (dX0_enqueue 13) rfl (Z_iconst (dX0_enqueue 14) ⟨by decide, by decide⟩ (Z_zastC (dX0_enqueue 15) sC28 h.2.2.1 (Or.inr rfl) (Z_aload_n (dX0_enqueue 16) rfl (Z_dup (dX0_enqueue 17) rfl (Z_gIC (x := (iv 24 7)) (dX0_enqueue 18) lk_X0_66 sC24 (Or.inl rfl) ((iu_o (by decide)).trans ((iu_o (by decide)).trans rfl)) (Z_iconst (dX0_enqueue 19) ⟨by decide, by decide⟩ (Z_iadd (dX0_enqueue 20) h.2.2.2.1 (Z_putIC (dX0_enqueue 21) lk_X0_66 sC24 rfl (Or.inl rfl) (Z_return (dX0_enqueue 22) rfl h.2.2.2.2)))))))))))))))))))))))
set_option maxRecDepth 20000 in
theorem sX0_dequeue_0 {G : ZG} {d : Nat} {iv : Nat → Nat → Int} {K : Option AV → AH → Prop} {rv : Nat → Nat → Option Nat} (hR : RC rv) (h : (0 ≤ (iv 24 6) ∧ (iv 24 6) < (800 : Nat)) ∧ ((-2147483648 ≤ ((iv 24 6) + 1) ∧ ((iv 24 6) + 1) ≤ 2147483647) ∧ ((0 ≤ (iv 27 ((iv 24 6).toNat)) ∧ (iv 27 ((iv 24 6).toNat)) < (800 : Nat)) ∧ ((-2147483648 ≤ ((iv 24 7) - 1) ∧ ((iv 24 7) - 1) ≤ 2147483647) ∧ (K (some (vi (iv 27 ((iv 24 6).toNat)))) (mkC (iu (iu (iu iv 24 6 (((iv 24 6) + 1).tmod 800)) 28 ((iv 27 ((iv 24 6).toNat)).toNat) 0) 24 7 ((iv 24 7) - 1)) rv)))))) : Z G mX0_dequeue d 0 0 0 [vr (some 24), vu] [] (mkC iv rv) K := (Z_aload_n (dX0_dequeue 0) rfl (Z_gRC (r := (some 27)) (dX0_dequeue 1) lk_X0_25 sC24 rfl (hR 34) (Z_aload_n (dX0_dequeue 2) rfl (Z_gIC (x := (iv 24 6)) (dX0_dequeue 3) lk_X0_63 sC24 (Or.inl rfl) rfl (Z_ilC (x := (iv 27 ((iv 24 6).toNat))) (dX0_dequeue 4) sC27 h.1 rfl (Z_istore_n (dX0_dequeue 5) (Nat.le_of_ble_eq_true rfl) rfl (Z_aload_n (dX0_dequeue 6) rfl (Z_aload_n (dX0_dequeue 7) rfl (Z_gIC (x := (iv 24 6)) (dX0_dequeue 8) lk_X0_63 sC24 (Or.inl rfl) rfl (Z_iconst (dX0_dequeue 9) ⟨by decide, by decide⟩ (Z_iadd (dX0_dequeue 10) h.2.1 (Z_sipush (dX0_dequeue 11) ⟨by decide, by decide⟩ (Z_irem (dX0_dequeue 12) (by decide) (Z_putIC (dX0_dequeue 13) lk_X0_63 sC24 rfl (Or.inl rfl) (Z_aload_n (dX0_dequeue 14) rfl (Z_gRC (r := (some 28)) (dX0_dequeue 15) lk_X0_28 sC24 rfl (hR 35) (Z_iload_n (dX0_dequeue 16) rfl (Z_iconst (dX0_dequeue 17) ⟨by decide, by decide⟩ (Z_zastC (dX0_dequeue 18) sC28 h.2.2.1 (Or.inl rfl) (Z_aload_n (dX0_dequeue 19) rfl (Z_dup (dX0_dequeue 20) rfl (Z_gIC (x := (iv 24 7)) (dX0_dequeue 21) lk_X0_66 sC24 (Or.inl rfl) ((iu_o (by decide)).trans ((iu_k (by decide)).trans rfl)) (Z_iconst (dX0_dequeue 22) ⟨by decide, by decide⟩ (Z_isub (dX0_dequeue 23) h.2.2.2.1 (Z_putIC (dX0_dequeue 24) lk_X0_66 sC24 rfl (Or.inl rfl) (Z_iload_n (dX0_dequeue 25) rfl (Z_ireturn (dX0_dequeue 26) rfl h.2.2.2.2)))))))))))))))))))))))))))
theorem C_bPlace {G : ZG} {d : Nat} {iv : Nat → Nat → Int} {K : Option AV → AH → Prop} {rv : Nat → Nat → Option Nat} {x1 x2 : Int} (hR : RC rv) (h1 : 0 ≤ x1 ∧ x1 < 2) (h2 : 0 ≤ x2 ∧ x2 < 400) (k : K (some (vi (iv 26 (400 * x1 + x2).toNat))) (mkC iv rv)) : Z G mX0_placeOf d 0 0 0 [vr (some 24), vi x1, vi x2] [] (mkC iv rv) K := by
  apply sX0_placeOf_0 hR
  rw [Int.mul_comm x1 400]
  exact ⟨by omega, by omega, by omega, k⟩
theorem C_bKnown {G : ZG} {d : Nat} {iv : Nat → Nat → Int} {K : Option AV → AH → Prop} {rv : Nat → Nat → Option Nat} {x1 x2 : Int} (hR : RC rv) (h1 : 0 ≤ x1 ∧ x1 < 2) (k : K (some (vi (b01 (0 ≤ x2 ∧ x2 < iv 29 x1.toNat)))) (mkC iv rv)) : Z G mX0_isKnown d 0 0 0 [vr (some 24), vi x1, vi x2] [] (mkC iv rv) K := by
  apply sX0_isKnown_0 hR
  unfold b01 at k
  refine ⟨fun a => ?_, fun a => ⟨by omega, fun b => ?_, fun b => ?_⟩⟩
  · rw [if_neg (by omega)] at k; exact k
  · rw [if_neg (by omega)] at k; exact k
  · rw [if_pos (by omega)] at k; exact k
def enq (v : Nat → Nat → Int) (n : Int) : Nat → Nat → Int := iu (iu (iu v 27 ((v 24 6 + v 24 7) % 800).toNat n) 28 n.toNat 1) 24 7 (v 24 7 + 1)
def deq (v : Nat → Nat → Int) : Nat → Nat → Int := iu (iu (iu v 24 6 ((v 24 6 + 1) % 800)) 28 (v 27 (v 24 6).toNat).toNat 0) 24 7 (v 24 7 - 1)
theorem C_enqueue {G : ZG} {d : Nat} {iv : Nat → Nat → Int} {K : Option AV → AH → Prop} {rv : Nat → Nat → Option Nat} {x1 : Int} (hR : RC rv) (h1 : 0 ≤ iv 24 6 ∧ iv 24 6 < 800) (h2 : 0 ≤ iv 24 7 ∧ iv 24 7 < 800) (h3 : 0 ≤ x1 ∧ x1 < 800) (k : K none (mkC (enq iv x1) rv)) : Z G mX0_enqueue d 0 0 0 [vr (some 24), vi x1] [] (mkC iv rv) K := by
  apply sX0_enqueue_0 hR
  have e : (iv 24 6 + iv 24 7).tmod 800 = (iv 24 6 + iv 24 7) % 800 := Int.tmod_eq_emod_of_nonneg (by omega)
  rw [e]
  exact ⟨by omega, by omega, by omega, by omega, k⟩
theorem C_dequeue {G : ZG} {d : Nat} {iv : Nat → Nat → Int} {K : Option AV → AH → Prop} {rv : Nat → Nat → Option Nat} (hR : RC rv) (h1 : 0 ≤ iv 24 6 ∧ iv 24 6 < 800) (h2 : 0 ≤ iv 24 7 ∧ iv 24 7 ≤ 800) (h3 : 0 ≤ iv 27 (iv 24 6).toNat ∧ iv 27 (iv 24 6).toNat < 800) (k : K (some (vi (iv 27 (iv 24 6).toNat))) (mkC (deq iv) rv)) : Z G mX0_dequeue d 0 0 0 [vr (some 24), vu] [] (mkC iv rv) K := by
  apply sX0_dequeue_0 hR
  have e : (iv 24 6 + 1).tmod 800 = (iv 24 6 + 1) % 800 := Int.tmod_eq_emod_of_nonneg (by omega)
  rw [e]
  exact ⟨by omega, by omega, by omega, by omega, k⟩
theorem cntf_up {P Q : Int → Prop} [DecidablePred P] [DecidablePred Q] {n : Int} (h : ∀ j : Int, 0 ≤ j → j ≠ n → (P j ↔ Q j)) (hp : ¬ P n) (hq : Q n) (h0 : 0 ≤ n) : ∀ m : Nat, cntf Q m = cntf P m + if n < m then 1 else 0
  | 0 => by unfold cntf; rw [if_neg (by omega)]; rfl
  | m + 1 => by
    unfold cntf
    rw [cntf_up h hp hq h0 m]
    by_cases e : (m : Int) = n
    · rw [e, if_pos hq, if_neg hp, if_neg (by omega), if_pos (by omega)]; try omega
    · by_cases g : P m
      · rw [if_pos g, if_pos ((h m (by omega) e).mp g)]
        by_cases k : n < m
        · rw [if_pos k, if_pos (by omega)]; try omega
        · rw [if_neg k, if_neg (by omega)]; try omega
      · rw [if_neg g, if_neg (fun z => g ((h m (by omega) e).mpr z))]
        by_cases k : n < m
        · rw [if_pos k, if_pos (by omega)]; omega
        · rw [if_neg k, if_neg (by omega)]; try omega
def qAt (v : Nat → Nat → Int) (i : Int) : Int := v 27 ((v 24 6 + i) % 800).toNat
def qI (v : Nat → Nat → Int) : Prop := (0 ≤ v 24 6 ∧ v 24 6 < 800) ∧ 0 ≤ v 24 7 ∧ cntf (fun i => ¬ v 28 i.toNat = 0) 800 = v 24 7 ∧ (∀ i : Int, 0 ≤ i → i < v 24 7 → (0 ≤ qAt v i ∧ qAt v i < 800) ∧ ¬ v 28 (qAt v i).toNat = 0) ∧ (∀ i j : Int, 0 ≤ i → i < j → j < v 24 7 → qAt v i ≠ qAt v j) ∧ (∀ u : Int, 0 ≤ u → u < 800 → ¬ v 28 u.toNat = 0 → ∃ i : Int, 0 ≤ i ∧ i < v 24 7 ∧ qAt v i = u)
theorem qI_room {v : Nat → Nat → Int} (h : qI v) {n : Int} (hn : 0 ≤ n ∧ n < 800) (hw : v 28 n.toNat = 0) : v 24 7 < 800 := by
  have e := cntf_up (P := fun i => ¬ v 28 i.toNat = 0) (Q := fun i => i = n ∨ ¬ v 28 i.toNat = 0) (n := n) (fun j j0 ne => ⟨fun z => Or.inr z, fun z => z.resolve_left ne⟩) (fun z => z hw) (Or.inl rfl) hn.1 800
  have r := cntf_r (P := fun i => i = n ∨ ¬ v 28 i.toNat = 0) 800
  rw [if_pos (by omega), h.2.2.1] at e
  omega
theorem enq_e {v : Nat → Nat → Int} {n : Int} : (enq v n) 24 6 = v 24 6 ∧ (enq v n) 24 7 = v 24 7 + 1 ∧ (∀ j, (enq v n) 28 j = if j = n.toNat then 1 else v 28 j) ∧ (∀ j, (enq v n) 27 j = if j = ((v 24 6 + v 24 7) % 800).toNat then n else v 27 j) ∧ (∀ i, i ≠ 24 → i ≠ 27 → i ≠ 28 → (enq v n) i = v i) := by
  refine ⟨rfl, rfl, fun j => ?_, fun j => ?_, fun i a b c => ?_⟩
  · unfold enq; rw [iu_o (by decide), iu_i, iu_o (by decide)]
  · unfold enq; rw [iu_o (by decide), iu_o (by decide), iu_i]
  · unfold enq; rw [iu_row a, iu_row c, iu_row b]
theorem qI_enq {v : Nat → Nat → Int} (h : qI v) {n : Int} (hn : 0 ≤ n ∧ n < 800) (hw : v 28 n.toNat = 0) : qI (enq v n) := by
  have rm := qI_room h hn hw
  obtain ⟨h1, h2, h3, h4, h5, h6⟩ := h
  obtain ⟨e6, e7, e28, e27, -⟩ := enq_e (v := v) (n := n)
  have old : ∀ i : Int, 0 ≤ i → i < v 24 7 → qAt (enq v n) i = qAt v i := by
    intro i a b
    unfold qAt
    rw [e6, e27, if_neg (by omega)]
  have new : qAt (enq v n) (v 24 7) = n := by
    unfold qAt
    rw [e6, e27, if_pos rfl]
  have ne : ∀ i : Int, 0 ≤ i → i < v 24 7 → qAt v i ≠ n := fun i a b z => (h4 i a b).2 (by rw [z]; exact hw)
  refine ⟨by rw [e6]; exact h1, by rw [e7]; omega, ?_, fun i a b => ?_, fun i j a b c => ?_, fun u a b c => ?_⟩
  · rw [e7, ← h3]
    have e := cntf_up (P := fun i => ¬ v 28 i.toNat = 0) (Q := fun i => ¬ (enq v n) 28 i.toNat = 0) (n := n) (fun j j0 ne => ?_) (fun z => z hw) (by rw [e28, if_pos rfl]; decide) hn.1 800
    · rw [e, if_pos (by omega)]
    · rw [e28, if_neg (by omega)]
  · rw [e7] at b
    by_cases g : i = v 24 7
    · rw [g, new, e28, if_pos rfl]; exact ⟨hn, by decide⟩
    · rw [old i a (by omega), e28]
      have := h4 i a (by omega)
      refine ⟨this.1, ?_⟩
      split
      · decide
      · exact this.2
  · rw [e7] at c
    by_cases g : j = v 24 7
    · rw [g, new, old i a (by omega)]; exact ne i a (by omega)
    · rw [old i a (by omega), old j (by omega) (by omega)]; exact h5 i j a b (by omega)
  · by_cases g : u = n
    · exact ⟨v 24 7, h2, by rw [e7]; omega, by rw [new, g]⟩
    · rw [e28, if_neg (by omega)] at c
      obtain ⟨i, i0, i1, e⟩ := h6 u a b c
      exact ⟨i, i0, by rw [e7]; omega, by rw [old i i0 i1]; exact e⟩
theorem deq_e {v : Nat → Nat → Int} : (deq v) 24 6 = (v 24 6 + 1) % 800 ∧ (deq v) 24 7 = v 24 7 - 1 ∧ (∀ j, (deq v) 28 j = if j = (v 27 (v 24 6).toNat).toNat then 0 else v 28 j) ∧ (∀ i, i ≠ 24 → i ≠ 28 → (deq v) i = v i) := by
  refine ⟨rfl, rfl, fun j => ?_, fun i a b => ?_⟩
  · unfold deq; rw [iu_o (by decide), iu_i, iu_o (by decide)]
  · unfold deq; rw [iu_row a, iu_row b, iu_row a]
theorem qI_deq {v : Nat → Nat → Int} (h : qI v) (hw : 0 < v 24 7) : qI (deq v) := by
  obtain ⟨h1, h2, h3, h4, h5, h6⟩ := h
  obtain ⟨e6, e7, e28, er⟩ := deq_e (v := v)
  have e27 : (deq v) 27 = v 27 := er 27 (by decide) (by decide)
  have q0 : qAt v 0 = v 27 (v 24 6).toNat := by
    unfold qAt; rw [show (v 24 6 + 0) % 800 = v 24 6 by omega]
  have sh : ∀ i : Int, 0 ≤ i → qAt (deq v) i = qAt v (i + 1) := by
    intro i a
    unfold qAt
    rw [e6, e27, show ((v 24 6 + 1) % 800 + i) % 800 = (v 24 6 + (i + 1)) % 800 by omega]
  have z := h4 0 (by omega) hw
  rw [← q0] at e28
  refine ⟨by rw [e6]; omega, by rw [e7]; omega, ?_, fun i a b => ?_, fun i j a b c => ?_, fun u a b c => ?_⟩
  · have e := cntf_up (P := fun i => ¬ (deq v) 28 i.toNat = 0) (Q := fun i => ¬ v 28 i.toNat = 0) (n := qAt v 0) (fun j j0 ne => ?_) (fun q => q (by rw [e28, if_pos rfl])) z.2 z.1.1 800
    · rw [h3, if_pos (by omega)] at e
      rw [e7]; omega
    · rw [e28, if_neg (by omega)]
  · rw [e7] at b
    rw [sh i a]
    have t := h4 (i + 1) (by omega) (by omega)
    refine ⟨t.1, ?_⟩
    have ne := h5 0 (i + 1) (by omega) (by omega) (by omega)
    rw [e28, if_neg (by omega)]; exact t.2
  · rw [e7] at c
    rw [sh i a, sh j (by omega)]
    exact h5 (i + 1) (j + 1) (by omega) (by omega) (by omega)
  · rw [e28] at c
    by_cases g : u.toNat = (qAt v 0).toNat
    · rw [if_pos g] at c; exact absurd rfl c
    · rw [if_neg g] at c
      obtain ⟨i, i0, i1, e⟩ := h6 u a b c
      have : i ≠ 0 := fun y => by rw [y] at e; exact g (by rw [e])
      exact ⟨i - 1, by omega, by rw [e7]; omega, by rw [sh (i - 1) (by omega), show i - 1 + 1 = i by omega]; exact e⟩
def sumA (f : Nat → Int) : Nat → Int
  | 0 => 0
  | n + 1 => sumA f n + f n
theorem sumA_put {f g : Nat → Int} {n : Nat} (h : ∀ j, j ≠ n → g j = f j) : ∀ m, sumA g m = sumA f m + if n < m then g n - f n else 0
  | 0 => by unfold sumA; rw [if_neg (by omega)]; rfl
  | m + 1 => by
    unfold sumA
    rw [sumA_put h m]
    by_cases e : m = n
    · subst e; rw [if_neg (by omega), if_pos (by omega)]; omega
    · rw [h m e]
      by_cases k : n < m
      · rw [if_pos k, if_pos (by omega)]; omega
      · rw [if_neg k, if_neg (by omega)]; omega
theorem sumA_le {f g : Nat → Int} {b : Int} (hb : 0 ≤ b) : ∀ m, (∀ j, j < m → f j ≤ g j + b) → sumA f m ≤ sumA g m + b * m
  | 0, _ => by unfold sumA; omega
  | m + 1, h => by
    have ih := sumA_le hb m (fun j q => h j (by omega))
    have := h m (by omega)
    unfold sumA
    rw [show ((m + 1 : Nat) : Int) = (m : Int) + 1 by omega, Int.mul_add, Int.mul_one]
    omega

