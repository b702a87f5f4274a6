/-! ===== sides: the class ===== -/
theorem Sd_ge {o : Nat} (h : isSd o) : 16 ≤ o ∧ o ≤ 46 ∧ (o = 16 ∨ o = 20 ∨ o = 42 ∨ o = 46) := by rcases h with rfl | rfl | rfl | rfl <;> simp
set_option maxRecDepth 20000 in
theorem sX7_empty_0 {G : ZG} {d : Nat} {iv : Nat → Nat → Int} {K : Option AV → AH → Prop} {rv : Nat → Nat → Option Nat} {o0 : Nat} (hR : RC rv) (h_o0 : isSd o0) (h : (-2147483648 ≤ ((iv o0 6) + 1) ∧ ((iv o0 6) + 1) ≤ 2147483647) ∧ (K none (mkC (iu (iu (iu iv o0 4 0) o0 5 (-1)) o0 6 ((iv o0 6) + 1)) rv))) : Z G mX7_empty d 0 0 0 [vr (some o0)] [] (mkC iv rv) K := (Z_aload_n (dX7_empty 0) rfl (Z_iconst (dX7_empty 1) ⟨by decide, by decide⟩ (Z_putIC (dX7_empty 2) lk_X7_32 (Sd_sh h_o0) rfl (Or.inl rfl) (Z_aload_n (dX7_empty 3) rfl (Z_iconst (dX7_empty 4) ⟨by decide, by decide⟩ (Z_putIC (dX7_empty 5) lk_X7_25 (Sd_sh h_o0) rfl (Or.inl rfl) (Z_aload_n (dX7_empty 6) rfl (Z_dup (dX7_empty 7) rfl (Z_gIC (x := (iv o0 6)) (dX7_empty 8) lk_X7_35 (Sd_sh h_o0) (Or.inl rfl) ((iu_k (by decide)).trans ((iu_k (by decide)).trans rfl)) (Z_iconst (dX7_empty 9) ⟨by decide, by decide⟩ (Z_iadd (dX7_empty 10) h.1 (Z_putIC (dX7_empty 11) lk_X7_35 (Sd_sh h_o0) rfl (Or.inl rfl) (Z_return (dX7_empty 12) rfl h.2)))))))))))))
theorem C_empty {G : ZG} {d : Nat} {iv : Nat → Nat → Int} {K : Option AV → AH → Prop} {rv : Nat → Nat → Option Nat} {o0 : Nat} (hR : RC rv) (h_o0 : isSd o0) (hc : 0 ≤ iv o0 6 ∧ iv o0 6 ≤ 100000000) (k : K none (mkC (iu (iu (iu iv o0 4 0) o0 5 (-1)) o0 6 (iv o0 6 + 1)) rv)) : Z G mX7_empty d 0 0 0 [vr (some o0)] [] (mkC iv rv) K := by
  apply sX7_empty_0 hR h_o0
  exact ⟨by omega, k⟩
set_option maxRecDepth 20000 in
theorem sX7_isLocked_0 {G : ZG} {d : Nat} {iv : Nat → Nat → Int} {K : Option AV → AH → Prop} {rv : Nat → Nat → Option Nat} {o0 : Nat} (hR : RC rv) (h_o0 : isSd o0) (h : ((iv o0 5) = (-1) → (K (some (vi 0)) (mkC iv rv))) ∧ (¬ (iv o0 5) = (-1) → (K (some (vi 1)) (mkC iv rv)))) : Z G mX7_isLocked d 0 0 0 [vr (some o0)] [] (mkC iv rv) K := (Z_aload_n (dX7_isLocked 0) rfl (Z_gIC (x := (iv o0 5)) (dX7_isLocked 1) lk_X7_25 (Sd_sh h_o0) (Or.inl rfl) rfl (Z_iconst (dX7_isLocked 2) ⟨by decide, by decide⟩ (Z_icmp_eq (dX7_isLocked 3) rfl (fun c1 => (Z_iconst (dX7_isLocked 6) ⟨by decide, by decide⟩ (Z_zreturn (dX7_isLocked 7) rfl (Or.inl rfl) (h.1 c1)))) (fun c2 => (Z_iconst (dX7_isLocked 4) ⟨by decide, by decide⟩ (Z_goto (dX7_isLocked 5) rfl (Z_zreturn (dX7_isLocked 7) rfl (Or.inr rfl) (h.2 c2)))))))))
theorem C_isLocked {G : ZG} {d : Nat} {iv : Nat → Nat → Int} {K : Option AV → AH → Prop} {rv : Nat → Nat → Option Nat} {o0 : Nat} (hR : RC rv) (h_o0 : isSd o0) (k : K (some (vi (b01 (¬ iv o0 5 = -1)))) (mkC iv rv)) : Z G mX7_isLocked d 0 0 0 [vr (some o0)] [] (mkC iv rv) K := by
  apply sX7_isLocked_0 hR h_o0
  refine ⟨fun h1 => ?_, fun h1 => ?_⟩
  all_goals (try omega)
  all_goals first | exact K_i (b01_t (by omega)) k | exact K_i (b01_f (by omega)) k
set_option maxRecDepth 20000 in
theorem sX7_hasRoomFor_0 {G : ZG} {d : Nat} {iv : Nat → Nat → Int} {K : Option AV → AH → Prop} {rv : Nat → Nat → Option Nat} {o0 : Nat} {x1 : Int} (hR : RC rv) (h_o0 : isSd o0) (h : (-2147483648 ≤ (400 - (iv o0 4)) ∧ (400 - (iv o0 4)) ≤ 2147483647) ∧ (((400 - (iv o0 4)) < x1 → (K (some (vi 0)) (mkC iv rv))) ∧ (x1 ≤ (400 - (iv o0 4)) → (K (some (vi 1)) (mkC iv rv))))) : Z G mX7_hasRoomFor d 0 0 0 [vr (some o0), vi x1] [] (mkC iv rv) K := (Z_iload_n (dX7_hasRoomFor 0) rfl (Z_sipush (dX7_hasRoomFor 1) ⟨by decide, by decide⟩ (Z_aload_n (dX7_hasRoomFor 2) rfl (Z_gIC (x := (iv o0 4)) (dX7_hasRoomFor 3) lk_X7_32 (Sd_sh h_o0) (Or.inl rfl) rfl (Z_isub (dX7_hasRoomFor 4) h.1 (Z_icmp_gt (dX7_hasRoomFor 5) rfl (fun c1 => (Z_iconst (dX7_hasRoomFor 8) ⟨by decide, by decide⟩ (Z_zreturn (dX7_hasRoomFor 9) rfl (Or.inl rfl) (h.2.1 c1)))) (fun c2 => (Z_iconst (dX7_hasRoomFor 6) ⟨by decide, by decide⟩ (Z_goto (dX7_hasRoomFor 7) rfl (Z_zreturn (dX7_hasRoomFor 9) rfl (Or.inr rfl) (h.2.2 c2)))))))))))
theorem C_hasRoomFor {G : ZG} {d : Nat} {iv : Nat → Nat → Int} {K : Option AV → AH → Prop} {rv : Nat → Nat → Option Nat} {o0 : Nat} {x1 : Int} (hR : RC rv) (h_o0 : isSd o0) (hc : 0 ≤ iv o0 4 ∧ iv o0 4 ≤ 400) (k : K (some (vi (b01 (iv o0 4 + x1 ≤ 400)))) (mkC iv rv)) : Z G mX7_hasRoomFor d 0 0 0 [vr (some o0), vi x1] [] (mkC iv rv) K := by
  apply sX7_hasRoomFor_0 hR h_o0
  refine ⟨?_, ⟨fun h1 => ?_, fun h1 => ?_⟩⟩
  all_goals (try omega)
  all_goals first | exact K_i (b01_t (by omega)) k | exact K_i (b01_f (by omega)) k
set_option maxRecDepth 20000 in
theorem sX7_append_0 {G : ZG} {d : Nat} {iv : Nat → Nat → Int} {K : Option AV → AH → Prop} {rv : Nat → Nat → Option Nat} {o0 : Nat} {x1 x2 : Int} (hR : RC rv) (h_o0 : isSd o0) (h : (400 ≤ (iv o0 4) → (K none (mkC iv rv))) ∧ ((iv o0 4) < 400 → ((0 ≤ (iv o0 4) ∧ (iv o0 4) < (400 : Nat)) ∧ ((0 ≤ (iv o0 4) ∧ (iv o0 4) < (400 : Nat)) ∧ ((-2147483648 ≤ ((iv o0 4) + 1) ∧ ((iv o0 4) + 1) ≤ 2147483647) ∧ ((-2147483648 ≤ ((iv o0 6) + 1) ∧ ((iv o0 6) + 1) ≤ 2147483647) ∧ (K none (mkC (iu (iu (iu (iu iv (o0 + 1) ((iv o0 4).toNat) x1) (o0 + 2) ((iv o0 4).toNat) x2) o0 4 ((iv o0 4) + 1)) o0 6 ((iv o0 6) + 1)) rv)))))))) : Z G mX7_append d 0 0 0 [vr (some o0), vi x1, vi x2] [] (mkC iv rv) K := (Z_aload_n (dX7_append 0) rfl (Z_gIC (x := (iv o0 4)) (dX7_append 1) lk_X7_32 (Sd_sh h_o0) (Or.inl rfl) rfl (Z_sipush (dX7_append 2) ⟨by decide, by decide⟩ (Z_icmp_ge (dX7_append 3) rfl (fun c1 => (Z_return (dX7_append 28) rfl (h.1 c1))) (fun c2 => (Z_aload_n (dX7_append 4) rfl (Z_gRC (r := (some (o0 + 1))) (dX7_append 5) lk_X7_15 (Sd_sh h_o0) rfl (Sd_r1 hR h_o0) (Z_aload_n (dX7_append 6) rfl (Z_gIC (x := (iv o0 4)) (dX7_append 7) lk_X7_32 (Sd_sh h_o0) (Or.inl rfl) rfl (Z_iload_n (dX7_append 8) rfl (Z_iastC (dX7_append 9) (Sd_a1 h_o0) (h.2 c2).1 (Z_aload_n (dX7_append 10) rfl (Z_gRC (r := (some (o0 + 2))) (dX7_append 11) lk_X7_19 (Sd_sh h_o0) rfl (Sd_r2 hR h_o0) (Z_aload_n (dX7_append 12) rfl (Z_gIC (x := (iv o0 4)) (dX7_append 13) lk_X7_32 (Sd_sh h_o0) (Or.inl rfl) ((iu_o (by omega)).trans rfl) (Z_iload_n (dX7_append 14) rfl (Z_iastC (dX7_append 15) (Sd_a2 h_o0) (h.2 c2).2.1 (Z_aload_n (dX7_append 16) rfl (Z_dup (dX7_append 17) rfl (Z_gIC (x := (iv o0 4)) (dX7_append 18) lk_X7_32 (Sd_sh h_o0) (Or.inl rfl) ((iu_o (by omega)).trans ((iu_o (by omega)).trans rfl)) (Z_iconst (dX7_append 19) ⟨by decide, by decide⟩ (Z_iadd (dX7_append 20) (h.2 c2).2.2.1 (Z_putIC (dX7_append 21) lk_X7_32 (Sd_sh h_o0) rfl (Or.inl rfl) (Z_aload_n (dX7_append 22) rfl (Z_dup (dX7_append 23) rfl (Z_gIC (x := (iv o0 6)) (dX7_append 24) lk_X7_35 (Sd_sh h_o0) (Or.inl rfl) ((iu_k (by decide)).trans ((iu_o (by omega)).trans ((iu_o (by omega)).trans rfl))) (Z_iconst (dX7_append 25) ⟨by decide, by decide⟩ (Z_iadd (dX7_append 26) (h.2 c2).2.2.2.1 (Z_putIC (dX7_append 27) lk_X7_35 (Sd_sh h_o0) rfl (Or.inl rfl) (Z_return (dX7_append 28) rfl (h.2 c2).2.2.2.2))))))))))))))))))))))))))))))
/-- parts laid on a side of the class -/
def layC (iv : Nat → Nat → Int) (o : Nat) (n m : Int) (f : Nat → Int) (w c : Int) : Nat → Nat → Int := iu (iu (imap (imap iv (o + 1) n.toNat (n + m).toNat f) (o + 2) n.toNat (n + m).toNat (fun _ => w)) o 4 (n + m)) o 6 (c + m)
theorem layC_0 {iv : Nat → Nat → Int} {o : Nat} {n w c : Int} {f : Nat → Int} (h : iv o 4 = n) (h6 : iv o 6 = c) : layC iv o n 0 f w c = iv := by
  unfold layC
  rw [show n + 0 = n by omega, imap_nil, imap_nil, ← h, iu_self, show c + 0 = c by omega, ← h6, iu_self]
theorem layC_4 {iv : Nat → Nat → Int} {o : Nat} {n m w c : Int} {f : Nat → Int} : layC iv o n m f w c o 4 = n + m := by unfold layC; rw [iu_k (by decide), iu_eq]
theorem layC_6 {iv : Nat → Nat → Int} {o : Nat} {n m w c : Int} {f : Nat → Int} : layC iv o n m f w c o 6 = c + m := by unfold layC; rw [iu_eq]
theorem layC_o {iv : Nat → Nat → Int} {o : Nat} {n m w c : Int} {f : Nat → Int} {i : Nat} (h0 : i ≠ o) (h1 : i ≠ o + 1) (h2 : i ≠ o + 2) : layC iv o n m f w c i = iv i := by
  unfold layC
  rw [iu_row h0, iu_row h0, imap_row h2, imap_row h1]
theorem layC_s {iv : Nat → Nat → Int} {o : Nat} {n m w c x : Int} {f : Nat → Int} (h : 0 ≤ n ∧ 0 ≤ m) (hx : x = f (n + m).toNat) : iu (iu (iu (iu (layC iv o n m f w c) (o + 1) (n + m).toNat x) (o + 2) (n + m).toNat w) o 4 (n + m + 1)) o 6 (c + m + 1) = layC iv o n (m + 1) f w c := by
  funext i j
  unfold layC
  by_cases e0 : i = o
  · subst e0
    by_cases e6 : j = 6
    · subst e6
      rw [iu_eq, iu_eq]; omega
    · rw [iu_k e6, iu_k e6]
      by_cases e4 : j = 4
      · subst e4
        rw [iu_eq, iu_eq]; omega
      · rw [iu_k e4, iu_k e4, iu_o (by omega), iu_o (by omega), iu_k e6, iu_k e4, imap_row (by omega), imap_row (by omega), imap_row (by omega), imap_row (by omega)]
  · rw [iu_o e0, iu_o e0, iu_o e0, iu_o e0]
    by_cases e2 : i = o + 2
    · subst e2
      rw [iu_i, iu_o (by omega), iu_o e0, iu_o e0, imap_ap, imap_row (i := o + 2) (o := o + 1) (by omega), imap_ap, imap_row (i := o + 2) (o := o + 1) (by omega)]
      by_cases ej : j = (n + m).toNat
      · rw [if_pos ej, if_pos (by omega)]
      · rw [if_neg ej]
        by_cases g : o + 2 = o + 2 ∧ n.toNat ≤ j ∧ j < (n + m).toNat
        · rw [if_pos g, if_pos (by omega)]
        · rw [if_neg g, if_neg (by omega)]
    · rw [iu_o e2, imap_row e2]
      by_cases e1 : i = o + 1
      · subst e1
        rw [iu_i, iu_o e0, iu_o e0, imap_row e2, imap_ap, imap_ap]
        by_cases ej : j = (n + m).toNat
        · rw [if_pos ej, if_pos (by omega), hx, ej]
        · rw [if_neg ej]
          by_cases g : o + 1 = o + 1 ∧ n.toNat ≤ j ∧ j < (n + m).toNat
          · rw [if_pos g, if_pos (by omega)]
          · rw [if_neg g, if_neg (by omega)]
      · rw [iu_o e1, iu_o e0, iu_o e0, imap_row e2, imap_row e1, imap_row e1]
theorem C_appendL {G : ZG} {d : Nat} {iv : Nat → Nat → Int} {K : Option AV → AH → Prop} {rv : Nat → Nat → Option Nat} {o0 : Nat} {x1 x2 n m c : Int} {f : Nat → Int} (hR : RC rv) (h_o0 : isSd o0) (hn : 0 ≤ n ∧ 0 ≤ m ∧ n + m < 400) (hc : 0 ≤ c ∧ c ≤ 100000000) (hx : x1 = f (n + m).toNat) (k : K none (mkC (layC iv o0 n (m + 1) f x2 c) rv)) : Z G mX7_append d 0 0 0 [vr (some o0), vi x1, vi x2] [] (mkC (layC iv o0 n m f x2 c) rv) K := by
  have e4 := layC_4 (iv := iv) (o := o0) (n := n) (m := m) (w := x2) (c := c) (f := f)
  have e6 := layC_6 (iv := iv) (o := o0) (n := n) (m := m) (w := x2) (c := c) (f := f)
  have s := layC_s (iv := iv) (o := o0) (n := n) (m := m) (w := x2) (c := c) (f := f) (x := x1) ⟨by omega, by omega⟩ hx
  apply sX7_append_0 hR h_o0
  rw [e4, e6, s]
  exact ⟨fun h => by omega, fun _ => ⟨by omega, by omega, by omega, by omega, k⟩⟩
set_option maxRecDepth 20000 in
theorem sX7_appendLead_0 {G : ZG} {d : Nat} {iv : Nat → Nat → Int} {K : Option AV → AH → Prop} {rv : Nat → Nat → Option Nat} {o0 : Nat} {x1 : Int} (hR : RC rv) (h_o0 : isSd o0) (h : Z G mX7_appendLead (d + 1) 0 0 2 [vr (some o0), vi x1, vi 0] [] (mkC iv rv) K) : Z G mX7_appendLead (d + 1) 0 0 0 [vr (some o0), vi x1, vu] [] (mkC iv rv) K := (Z_iconst (dX7_appendLead 0) ⟨by decide, by decide⟩ (Z_istore_n (dX7_appendLead 1) (Nat.le_of_ble_eq_true rfl) rfl h))
set_option maxRecDepth 20000 in
theorem sX7_appendLead_2 {G : ZG} {d : Nat} {iv : Nat → Nat → Int} {K : Option AV → AH → Prop} {rv : Nat → Nat → Option Nat} {o0 : Nat} {x1 x2 : Int} (hR : RC rv) (h_o0 : isSd o0) (h : (x1 ≤ x2 → (K none (mkC iv rv))) ∧ (x2 < x1 → (Z G mX7_append d 0 0 0 [vr (some o0), vi 0, vi (-1)] [] (mkC iv rv) (fun r A1 => Z G mX7_appendLead (d + 1) 0 0 13 [vr (some o0), vi x1, vi x2] (r.toList ++ []) A1 K)))) : Z G mX7_appendLead (d + 1) 0 0 2 [vr (some o0), vi x1, vi x2] [] (mkC iv rv) K := (Z_iload_n (dX7_appendLead 2) rfl (Z_iload_n (dX7_appendLead 3) rfl (Z_icmp_ge (dX7_appendLead 4) rfl (fun c1 => (Z_return (dX7_appendLead 11) rfl (h.1 c1))) (fun c2 => (Z_aload_n (dX7_appendLead 5) rfl (Z_iconst (dX7_appendLead 6) ⟨by decide, by decide⟩ (Z_iconst (dX7_appendLead 7) ⟨by decide, by decide⟩ (Z_cVC (As := [vi 0, vi (-1)]) (S := []) (dX7_appendLead 8) lk_X7_38 (Sd_sh h_o0) (by decide) rfl rfl (Nat.le_of_ble_eq_true rfl) (Nat.le_of_ble_eq_true rfl) (h.2 c2)))))))))
set_option maxRecDepth 20000 in
theorem sX7_appendLead_13 {G : ZG} {d : Nat} {iv : Nat → Nat → Int} {K : Option AV → AH → Prop} {rv : Nat → Nat → Option Nat} {o0 : Nat} {x1 x2 : Int} (hR : RC rv) (h_o0 : isSd o0) (h : (-2147483648 ≤ (x2 + 1) ∧ (x2 + 1) ≤ 2147483647) ∧ (Z G mX7_appendLead (d + 1) 0 0 2 [vr (some o0), vi x1, vi (x2 + 1)] [] (mkC iv rv) K)) : Z G mX7_appendLead (d + 1) 0 0 13 [vr (some o0), vi x1, vi x2] [] (mkC iv rv) K := (Z_iinc (dX7_appendLead 9) rfl (Nat.le_of_ble_eq_true rfl) h.1 rfl (Z_goto (dX7_appendLead 10) rfl h.2))
theorem C_appendLead {G : ZG} {d : Nat} {iv : Nat → Nat → Int} {K : Option AV → AH → Prop} {rv : Nat → Nat → Option Nat} {o0 : Nat} {x1 : Int} (hR : RC rv) (h_o0 : isSd o0) (hn : 0 ≤ iv o0 4 ∧ 0 ≤ x1 ∧ iv o0 4 + x1 ≤ 400) (hc : 0 ≤ iv o0 6 ∧ iv o0 6 ≤ 100000000) (k : K none (mkC (layC iv o0 (iv o0 4) x1 (fun _ => 0) (-1) (iv o0 6)) rv)) : Z G mX7_appendLead (d + 1) 0 0 0 [vr (some o0), vi x1, vu] [] (mkC iv rv) K := by
  apply sX7_appendLead_0 hR h_o0
  refine lp_up (P := fun k iv' => Z G mX7_appendLead (d + 1) 0 0 2 [vr (some o0), vi x1, vi k] [] (mkC iv' rv) K) x1 (fun k iv' => 0 ≤ k ∧ iv' = layC iv o0 (iv o0 4) k (fun _ => 0) (-1) (iv o0 6)) ?_ ?_ 0 iv (by omega) ⟨by omega, (layC_0 rfl rfl).symm⟩
  · rintro iv' ⟨-, rfl⟩
    apply sX7_appendLead_2 hR h_o0
    exact ⟨fun _ => k, fun h => by omega⟩
  · rintro j iv' hj ⟨h0, rfl⟩ ih
    apply sX7_appendLead_2 hR h_o0
    refine ⟨fun h => by omega, fun _ => C_appendL hR h_o0 (by omega) hc rfl ?_⟩
    apply sX7_appendLead_13 hR h_o0
    exact ⟨by omega, ih _ ⟨by omega, rfl⟩⟩
set_option maxRecDepth 20000 in
theorem sX7_appendSong_0 {G : ZG} {d : Nat} {iv : Nat → Nat → Int} {K : Option AV → AH → Prop} {rv : Nat → Nat → Option Nat} {o0 : Nat} {x2 : Int} (hR : RC rv) (h_o0 : isSd o0) (h : Z G mX7_appendSong (d + 1) 0 0 2 [vr (some o0), vr (some 10), vi x2, vi 0] [] (mkC iv rv) K) : Z G mX7_appendSong (d + 1) 0 0 0 [vr (some o0), vr (some 10), vi x2, vu] [] (mkC iv rv) K := (Z_iconst (dX7_appendSong 0) ⟨by decide, by decide⟩ (Z_istore_n (dX7_appendSong 1) (Nat.le_of_ble_eq_true rfl) rfl h))
set_option maxRecDepth 20000 in
theorem sX7_appendSong_2 {G : ZG} {d : Nat} {iv : Nat → Nat → Int} {K : Option AV → AH → Prop} {rv : Nat → Nat → Option Nat} {o0 : Nat} {x2 x3 : Int} (hR : RC rv) (h_o0 : isSd o0) (h : (0 ≤ x2 ∧ x2 < (10 : Nat)) ∧ (((iv 12 ((x2).toNat)) ≤ x3 → (K none (mkC iv rv))) ∧ (x3 < (iv 12 ((x2).toNat)) → ((0 ≤ x2 ∧ x2 < 10 ∧ 0 ≤ x3 ∧ x3 < 60) ∧ (Z G mX7_append d 0 0 0 [vr (some o0), vi (iv 11 (60 * x2 + x3).toNat), vi x2] [] (mkC iv rv) (fun r A1 => Z G mX7_appendSong (d + 1) 0 0 23 [vr (some o0), vr (some 10), vi x2, vi x3] (r.toList ++ []) A1 K)))))) : Z G mX7_appendSong (d + 1) 0 0 2 [vr (some o0), vr (some 10), vi x2, vi x3] [] (mkC iv rv) K := (Z_iload_n (dX7_appendSong 2) rfl (Z_aload_n (dX7_appendSong 3) rfl (Z_gRC (r := (some 12)) (dX7_appendSong 4) lk_X7_42 sC10 rfl (hR 19) (Z_iload_n (dX7_appendSong 5) rfl (Z_ilC (x := (iv 12 ((x2).toNat))) (dX7_appendSong 6) sC12 h.1 rfl (Z_icmp_ge (dX7_appendSong 7) rfl (fun c1 => (Z_return (dX7_appendSong 17) rfl (h.2.1 c1))) (fun c2 => (Z_aload_n (dX7_appendSong 8) rfl (Z_aload_n (dX7_appendSong 9) rfl (Z_iload_n (dX7_appendSong 10) rfl (Z_iload_n (dX7_appendSong 11) rfl (Z_cVC (As := [vi x2, vi x3]) (S := [vr (some o0)]) (dX7_appendSong 12) lk_X7_47 sC10 (by decide) rfl rfl (Nat.le_of_ble_eq_true rfl) (Nat.le_of_ble_eq_true rfl) (C_levelOf hR (h.2.2 c2).1 ((Z_iload_n (dX7_appendSong 13) rfl (Z_cVC (As := [vi (iv 11 (60 * x2 + x3).toNat), vi x2]) (S := []) (dX7_appendSong 14) lk_X7_38 (Sd_sh h_o0) (by decide) rfl rfl (Nat.le_of_ble_eq_true rfl) (Nat.le_of_ble_eq_true rfl) (h.2.2 c2).2))))))))))))))))
set_option maxRecDepth 20000 in
theorem sX7_appendSong_23 {G : ZG} {d : Nat} {iv : Nat → Nat → Int} {K : Option AV → AH → Prop} {rv : Nat → Nat → Option Nat} {o0 : Nat} {x2 x3 : Int} (hR : RC rv) (h_o0 : isSd o0) (h : (-2147483648 ≤ (x3 + 1) ∧ (x3 + 1) ≤ 2147483647) ∧ (Z G mX7_appendSong (d + 1) 0 0 2 [vr (some o0), vr (some 10), vi x2, vi (x3 + 1)] [] (mkC iv rv) K)) : Z G mX7_appendSong (d + 1) 0 0 23 [vr (some o0), vr (some 10), vi x2, vi x3] [] (mkC iv rv) K := (Z_iinc (dX7_appendSong 15) rfl (Nat.le_of_ble_eq_true rfl) h.1 rfl (Z_goto (dX7_appendSong 16) rfl h.2))
theorem C_appendSong {G : ZG} {d : Nat} {iv : Nat → Nat → Int} {K : Option AV → AH → Prop} {rv : Nat → Nat → Option Nat} {o0 : Nat} {x2 : Int} (hR : RC rv) (h_o0 : isSd o0) (hs : 0 ≤ x2 ∧ x2 < 10) (hl : 1 ≤ iv 12 x2.toNat ∧ iv 12 x2.toNat ≤ 60) (hn : 0 ≤ iv o0 4 ∧ iv o0 4 + iv 12 x2.toNat ≤ 400) (hc : 0 ≤ iv o0 6 ∧ iv o0 6 ≤ 100000000) (k : K none (mkC (layC iv o0 (iv o0 4) (iv 12 x2.toNat) (fun j => iv 11 (60 * x2 + (j - iv o0 4)).toNat) x2 (iv o0 6)) rv)) : Z G mX7_appendSong (d + 1) 0 0 0 [vr (some o0), vr (some 10), vi x2, vu] [] (mkC iv rv) K := by
  have ho := Sd_ge h_o0
  apply sX7_appendSong_0 hR h_o0
  refine lp_up (P := fun k iv' => Z G mX7_appendSong (d + 1) 0 0 2 [vr (some o0), vr (some 10), vi x2, vi k] [] (mkC iv' rv) K) (iv 12 x2.toNat) (fun k iv' => 0 ≤ k ∧ iv' = layC iv o0 (iv o0 4) k (fun j => iv 11 (60 * x2 + (j - iv o0 4)).toNat) x2 (iv o0 6)) ?_ ?_ 0 iv (by omega) ⟨by omega, (layC_0 rfl rfl).symm⟩
  · rintro iv' ⟨-, rfl⟩
    apply sX7_appendSong_2 hR h_o0
    rw [layC_o (i := 12) (by omega) (by omega) (by omega)]
    exact ⟨by omega, fun _ => k, fun h => by omega⟩
  · rintro j iv' hj ⟨h0, rfl⟩ ih
    apply sX7_appendSong_2 hR h_o0
    rw [layC_o (i := 12) (by omega) (by omega) (by omega), layC_o (i := 11) (by omega) (by omega) (by omega)]
    refine ⟨by omega, fun h => by omega, fun _ => ⟨by omega, C_appendL hR h_o0 (by omega) hc ?_ ?_⟩⟩
    · congr 2; omega
    · apply sX7_appendSong_23 hR h_o0
      exact ⟨by omega, ih _ ⟨by omega, rfl⟩⟩
set_option maxRecDepth 20000 in
theorem sX7_cap_0 {G : ZG} {d : Nat} {iv : Nat → Nat → Int} {K : Option AV → AH → Prop} {rv : Nat → Nat → Option Nat} {o0 : Nat} {x1 : Int} (hR : RC rv) (h_o0 : isSd o0) (h : Z G mX7_cap d 0 0 4 [vr (some o0), vi x1, vi 0, vi 0] [] (mkC iv rv) K) : Z G mX7_cap d 0 0 0 [vr (some o0), vi x1, vu, vu] [] (mkC iv rv) K := (Z_iconst (dX7_cap 0) ⟨by decide, by decide⟩ (Z_istore_n (dX7_cap 1) (Nat.le_of_ble_eq_true rfl) rfl (Z_iconst (dX7_cap 2) ⟨by decide, by decide⟩ (Z_istore_n (dX7_cap 3) (Nat.le_of_ble_eq_true rfl) rfl h))))
set_option maxRecDepth 20000 in
theorem sX7_cap_4 {G : ZG} {d : Nat} {iv : Nat → Nat → Int} {K : Option AV → AH → Prop} {rv : Nat → Nat → Option Nat} {o0 : Nat} {x1 x2 x3 : Int} (hR : RC rv) (h_o0 : isSd o0) (h : ((iv o0 4) ≤ x3 → ((-2147483648 ≤ ((iv o0 6) + 1) ∧ ((iv o0 6) + 1) ≤ 2147483647) ∧ (K (some (vi x2)) (mkC (iu iv o0 6 ((iv o0 6) + 1)) rv)))) ∧ (x3 < (iv o0 4) → ((0 ≤ x3 ∧ x3 < (400 : Nat)) ∧ (((iv (o0 + 1) ((x3).toNat)) ≤ x1 → ((-2147483648 ≤ (x3 + 1) ∧ (x3 + 1) ≤ 2147483647) ∧ (Z G mX7_cap d 0 0 4 [vr (some o0), vi x1, vi x2, vi (x3 + 1)] [] (mkC iv rv) K))) ∧ (x1 < (iv (o0 + 1) ((x3).toNat)) → ((0 ≤ x3 ∧ x3 < (400 : Nat)) ∧ ((-2147483648 ≤ (x2 + 1) ∧ (x2 + 1) ≤ 2147483647) ∧ ((-2147483648 ≤ (x3 + 1) ∧ (x3 + 1) ≤ 2147483647) ∧ (Z G mX7_cap d 0 0 4 [vr (some o0), vi x1, vi (x2 + 1), vi (x3 + 1)] [] (mkC (iu iv (o0 + 1) ((x3).toNat) x1) rv) K))))))))) : Z G mX7_cap d 0 0 4 [vr (some o0), vi x1, vi x2, vi x3] [] (mkC iv rv) K := (Z_iload_n (dX7_cap 4) rfl (Z_aload_n (dX7_cap 5) rfl (Z_gIC (x := (iv o0 4)) (dX7_cap 6) lk_X7_32 (Sd_sh h_o0) (Or.inl rfl) rfl (Z_icmp_ge (dX7_cap 7) rfl (fun c1 => (Z_aload_n (dX7_cap 22) rfl (Z_dup (dX7_cap 23) rfl (Z_gIC (x := (iv o0 6)) (dX7_cap 24) lk_X7_35 (Sd_sh h_o0) (Or.inl rfl) rfl (Z_iconst (dX7_cap 25) ⟨by decide, by decide⟩ (Z_iadd (dX7_cap 26) (h.1 c1).1 (Z_putIC (dX7_cap 27) lk_X7_35 (Sd_sh h_o0) rfl (Or.inl rfl) (Z_iload_n (dX7_cap 28) rfl (Z_ireturn (dX7_cap 29) rfl (h.1 c1).2))))))))) (fun c2 => (Z_aload_n (dX7_cap 8) rfl (Z_gRC (r := (some (o0 + 1))) (dX7_cap 9) lk_X7_15 (Sd_sh h_o0) rfl (Sd_r1 hR h_o0) (Z_iload_n (dX7_cap 10) rfl (Z_ilC (x := (iv (o0 + 1) ((x3).toNat))) (dX7_cap 11) (Sd_a1 h_o0) (h.2 c2).1 rfl (Z_iload_n (dX7_cap 12) rfl (Z_icmp_le (dX7_cap 13) rfl (fun c3 => (Z_iinc (dX7_cap 20) rfl (Nat.le_of_ble_eq_true rfl) ((h.2 c2).2.1 c3).1 rfl (Z_goto (dX7_cap 21) rfl ((h.2 c2).2.1 c3).2))) (fun c4 => (Z_aload_n (dX7_cap 14) rfl (Z_gRC (r := (some (o0 + 1))) (dX7_cap 15) lk_X7_15 (Sd_sh h_o0) rfl (Sd_r1 hR h_o0) (Z_iload_n (dX7_cap 16) rfl (Z_iload_n (dX7_cap 17) rfl (Z_iastC (dX7_cap 18) (Sd_a1 h_o0) ((h.2 c2).2.2 c4).1 (Z_iinc (dX7_cap 19) rfl (Nat.le_of_ble_eq_true rfl) ((h.2 c2).2.2 c4).2.1 rfl (Z_iinc (dX7_cap 20) rfl (Nat.le_of_ble_eq_true rfl) ((h.2 c2).2.2 c4).2.2.1 rfl (Z_goto (dX7_cap 21) rfl ((h.2 c2).2.2 c4).2.2.2))))))))))))))))))))
theorem C_cap {G : ZG} {d : Nat} {iv : Nat → Nat → Int} {K : Option AV → AH → Prop} {rv : Nat → Nat → Option Nat} {o0 : Nat} {x1 : Int} (hR : RC rv) (h_o0 : isSd o0) (hn : 0 ≤ iv o0 4 ∧ iv o0 4 ≤ 400) (hc : 0 ≤ iv o0 6 ∧ iv o0 6 ≤ 100000000) (k : K (some (vi (cntf (fun k => x1 < iv (o0 + 1) k.toNat) (iv o0 4).toNat))) (mkC (iu (imap iv (o0 + 1) 0 (iv o0 4).toNat (fun j => min x1 (iv (o0 + 1) j))) o0 6 (iv o0 6 + 1)) rv)) : Z G mX7_cap d 0 0 0 [vr (some o0), vi x1, vu, vu] [] (mkC iv rv) K := by
  apply sX7_cap_0 hR h_o0
  refine lp_up (P := fun k (t : Int × (Nat → Nat → Int)) => Z G mX7_cap d 0 0 4 [vr (some o0), vi x1, vi t.1, vi k] [] (mkC t.2 rv) K) (iv o0 4) (fun k t => 0 ≤ k ∧ t.1 = cntf (fun k => x1 < iv (o0 + 1) k.toNat) k.toNat ∧ t.2 = imap iv (o0 + 1) 0 k.toNat (fun j => min x1 (iv (o0 + 1) j))) ?_ ?_ 0 (0, iv) (by omega) ⟨by omega, rfl, by rw [show (0 : Int).toNat = 0 from rfl, imap_nil]⟩
  · rintro ⟨t, iv'⟩ ⟨-, e1, e2⟩
    dsimp only at e1 e2 ⊢
    subst e1 e2
    apply sX7_cap_4 hR h_o0
    rw [imap_row (i := o0) (by omega)]
    exact ⟨fun _ => ⟨by omega, k⟩, fun h => by omega⟩
  · rintro k ⟨t, iv'⟩ hk ⟨hk0, e1, e2⟩ ih
    dsimp only at e1 e2 ⊢
    subst e1 e2
    have hc := cntf_r (P := fun k => x1 < iv (o0 + 1) k.toNat) k.toNat
    have hcs : cntf (fun k => x1 < iv (o0 + 1) k.toNat) (k + 1).toNat = cntf (fun k => x1 < iv (o0 + 1) k.toNat) k.toNat + (if x1 < iv (o0 + 1) k.toNat then 1 else 0) := by
      rw [show (k + 1).toNat = k.toNat + 1 by omega]
      rfl
    have e8 : imap iv (o0 + 1) 0 k.toNat (fun j => min x1 (iv (o0 + 1) j)) (o0 + 1) k.toNat = iv (o0 + 1) k.toNat := by rw [imap_ap, if_neg (by omega)]
    apply sX7_cap_4 hR h_o0
    rw [imap_row (i := o0) (by omega), e8]
    refine ⟨fun h => by omega, fun _ => ⟨by omega, fun h => ?_, fun h => ?_⟩⟩
    · refine ⟨by omega, ih (_, _) ⟨by omega, ?_, ?_⟩⟩
      · show cntf _ _ = cntf _ _
        rw [hcs, if_neg (by omega)]; omega
      · show imap _ _ _ _ _ = imap _ _ _ _ _
        rw [show (k + 1).toNat = k.toNat + 1 by omega, ← imap_snoc (x := iv (o0 + 1) k.toNat) (by omega) (by omega)]
        conv => lhs; rw [← iu_self (o := o0 + 1) (k := k.toNat) (iv := imap iv (o0 + 1) 0 k.toNat (fun j => min x1 (iv (o0 + 1) j))), e8]
    · refine ⟨by omega, by omega, by omega, ih (_, _) ⟨by omega, ?_, ?_⟩⟩
      · show cntf _ _ + 1 = cntf _ _
        rw [hcs, if_pos (by omega)]
      · show iu _ _ _ _ = imap _ _ _ _ _
        rw [imap_snoc (by omega) (by omega)]; congr 1; omega

