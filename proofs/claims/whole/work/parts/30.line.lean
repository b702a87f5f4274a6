/-! ===== the longest line: the model ===== -/
/-- the greatest of F below q, and where it stands first -/
def flb (F : Int → Int) : Nat → Int × Int
  | 0 => (0, -1)
  | q + 1 => if (flb F q).1 < F q then (F q, q) else flb F q
theorem flb_r {F : Int → Int} : ∀ q : Nat, (0 ≤ (flb F q).1) ∧ (∀ c : Int, 0 ≤ c → c < q → F c ≤ (flb F q).1) ∧ (((flb F q).2 = -1 ∧ (flb F q).1 = 0) ∨ ((0 ≤ (flb F q).2 ∧ (flb F q).2 < q) ∧ F (flb F q).2 = (flb F q).1 ∧ ∀ c : Int, 0 ≤ c → c < (flb F q).2 → F c < (flb F q).1))
  | 0 => ⟨Int.le_refl _, fun c a b => by omega, Or.inl ⟨rfl, rfl⟩⟩
  | q + 1 => by
    obtain ⟨h0, h1, h2⟩ := flb_r (F := F) q
    unfold flb
    split
    · rename_i g
      refine ⟨by dsimp only; omega, fun c a b => ?_, Or.inr ⟨by dsimp only; omega, rfl, fun c a b => ?_⟩⟩
      · by_cases e : c = q
        · subst e; exact Int.le_refl _
        · have := h1 c a (by omega); dsimp only; omega
      · have := h1 c a (by exact b); dsimp only; omega
    · rename_i g
      refine ⟨h0, fun c a b => ?_, ?_⟩
      · by_cases e : c = q
        · subst e; omega
        · exact h1 c a (by omega)
      · rcases h2 with h2 | h2
        · exact Or.inl h2
        · exact Or.inr ⟨by omega, h2.2⟩
/-- the line of a number: turn, part and slant -/
def lnQ (f g : Nat → Int) (n : Int) : Int → Int := fun c => lnF f g n (c / 24) (c / 3 % 8) (c % 3 - 1)
theorem lnQ_at {f g : Nat → Int} {n t p s : Int} (hp : 0 ≤ p ∧ p < 8) (hs : -1 ≤ s ∧ s ≤ 1) : lnQ f g n (24 * t + 3 * p + (s + 1)) = lnF f g n t p s := by
  unfold lnQ
  rw [show (24 * t + 3 * p + (s + 1)) / 24 = t by omega, show (24 * t + 3 * p + (s + 1)) / 3 % 8 = p by omega, show (24 * t + 3 * p + (s + 1)) % 3 - 1 = s by omega]
def lineM (iv v : Nat → Nat → Int) (b : Int × Int) : Prop := (∀ i j, ¬ (i = 0 ∧ (j = 31 ∨ j = 32 ∨ j = 33)) → v i j = iv i j) ∧ (0 ≤ b.2 → v 0 31 = b.2 / 24 ∧ v 0 32 = b.2 / 3 % 8 ∧ v 0 33 = b.2 % 3 - 1)
theorem lineM.ck {iv v : Nat → Nat → Int} {b : Int × Int} (h : lineM iv v b) (q : ckM iv) : ckM v := by
  have r : ∀ i, i ≠ 0 → v i = iv i := by intro i a; funext j; exact h.1 i j (fun z => a z.1)
  unfold ckM at *
  rw [h.1 0 30 (by omega), r 20 (by decide), r 21 (by decide), r 22 (by decide)]
  exact q
theorem M_findLine {G : ZG} {d : Nat} {iv : Nat → Nat → Int} {K : Option AV → AH → Prop} (h : ckM iv) (k : ∀ v : Nat → Nat → Int, lineM iv v (flb (lnQ (iv 21) (iv 22) (iv 0 30)) 2400) → K (some (vi (flb (lnQ (iv 21) (iv 22) (iv 0 30)) 2400).1)) (mkM v)) : Z G mX12_findLine (d + 2) 0 0 0 [vr (some 0), vu, vu, vu, vu, vu] [] (mkM iv) K := by
  apply sX12_findLine_0
  generalize hF : lnQ (iv 21) (iv 22) (iv 0 30) = F at k
  refine lp_up (σ := Int × (Nat → Nat → Int)) (P := fun t s => Z G mX12_findLine (d + 2) 0 0 4 [vr (some 0), vi s.1, vi t, vu, vu, vu] [] (mkM s.2) K) 100 (fun t s => 0 ≤ t ∧ s.1 = (flb F (24 * t).toNat).1 ∧ lineM iv s.2 (flb F (24 * t).toNat)) ?_ ?_ 0 (0, iv) (by omega) ⟨by omega, rfl, fun _ _ _ => rfl, fun z => absurd z (by rw [show (24 * (0 : Int)).toNat = 0 from rfl]; unfold flb; decide)⟩
  · rintro ⟨b, v⟩ ⟨-, e, f⟩
    apply sX12_findLine_4
    dsimp only at *
    subst e
    exact ⟨fun _ => k v f, fun z => by omega⟩
  · rintro t ⟨b, v⟩ ht ⟨t0, e, f⟩ ih
    apply sX12_findLine_4
    dsimp only at *
    refine ⟨fun z => by omega, fun _ => ?_⟩
    refine lp_up (σ := Int × (Nat → Nat → Int)) (P := fun p s => Z G mX12_findLine (d + 2) 0 0 12 [vr (some 0), vi s.1, vi t, vi p, vu, vu] [] (mkM s.2) K) 8 (fun p s => 0 ≤ p ∧ s.1 = (flb F (24 * t + 3 * p).toNat).1 ∧ lineM iv s.2 (flb F (24 * t + 3 * p).toNat)) ?_ ?_ 0 (b, v) (by omega) ⟨by omega, by rw [show 24 * t + 3 * 0 = 24 * t by omega]; exact e, by rw [show 24 * t + 3 * 0 = 24 * t by omega]; exact f⟩
    · rintro ⟨b, v⟩ ⟨-, e, f⟩
      apply sX12_findLine_12
      dsimp only at *
      refine ⟨fun _ => ⟨by omega, ih (b, v) ⟨by omega, ?_⟩⟩, fun z => by omega⟩
      rw [show 24 * (t + 1) = 24 * t + 3 * 8 by omega]
      exact ⟨e, f⟩
    · rintro p ⟨b, v⟩ hp ⟨p0, e, f⟩ ihp
      apply sX12_findLine_12
      dsimp only at *
      refine ⟨fun z => by omega, fun _ => ?_⟩
      refine lp_up (σ := Int × (Nat → Nat → Int)) (P := fun s x => Z G mX12_findLine (d + 2) 0 0 21 [vr (some 0), vi x.1, vi t, vi p, vi s, vu] [] (mkM x.2) K) 2 (fun s x => -1 ≤ s ∧ x.1 = (flb F (24 * t + 3 * p + (s + 1)).toNat).1 ∧ lineM iv x.2 (flb F (24 * t + 3 * p + (s + 1)).toNat)) ?_ ?_ (-1) (b, v) (by omega) ⟨by omega, by rw [show 24 * t + 3 * p + (-1 + 1) = 24 * t + 3 * p by omega]; exact e, by rw [show 24 * t + 3 * p + (-1 + 1) = 24 * t + 3 * p by omega]; exact f⟩
      · rintro ⟨b, v⟩ ⟨-, e, f⟩
        apply sX12_findLine_21
        dsimp only at *
        refine ⟨fun _ => ⟨by omega, ihp (b, v) ⟨by omega, ?_⟩⟩, fun z => by omega⟩
        rw [show 24 * t + 3 * (p + 1) = 24 * t + 3 * p + (2 + 1) by omega]
        exact ⟨e, f⟩
      · rintro s ⟨b, v⟩ hs ⟨s0, e, f⟩ ihs
        apply sX12_findLine_21
        dsimp only at *
        have r21 : v 21 = iv 21 := by funext j; exact f.1 21 j (by omega)
        have r22 : v 22 = iv 22 := by funext j; exact f.1 22 j (by omega)
        have ef : lnF (v 21) (v 22) (v 0 30) t p s = F (24 * t + 3 * p + (s + 1)) := by
          rw [r21, r22, f.1 0 30 (by omega), ← hF, lnQ_at (by omega) (by omega)]
        have st : flb F (24 * t + 3 * p + (s + 1 + 1)).toNat = if b < F (24 * t + 3 * p + (s + 1)) then (F (24 * t + 3 * p + (s + 1)), 24 * t + 3 * p + (s + 1)) else flb F (24 * t + 3 * p + (s + 1)).toNat := by
          rw [show (24 * t + 3 * p + (s + 1 + 1)).toNat = (24 * t + 3 * p + (s + 1)).toNat + 1 by omega]
          conv => lhs; unfold flb
          rw [← e, show (((24 * t + 3 * p + (s + 1)).toNat : Nat) : Int) = 24 * t + 3 * p + (s + 1) by omega]
        rw [ef]
        refine ⟨fun z => by omega, fun _ => ⟨f.ck h, by omega, by omega, by omega, fun q => ⟨by omega, ihs (_, _) ⟨by omega, ?_⟩⟩, fun q => ⟨by omega, ihs (b, v) ⟨by omega, ?_⟩⟩⟩⟩
        · rw [st, if_pos q]
          refine ⟨rfl, fun i j a => ?_, fun _ => ?_⟩
          · rw [← f.1 i j a]
            show iu (iu (iu v 0 31 t) 0 32 p) 0 33 s i j = v i j
            unfold iu
            rw [if_neg (by omega), if_neg (by omega), if_neg (by omega)]
          · refine ⟨?_, ?_, ?_⟩
            · show t = _; omega
            · show p = _; omega
            · show s = _; omega
        · rw [st, if_neg (by omega)]
          exact ⟨e, f⟩
set_option maxRecDepth 20000 in
theorem sX12_longest_0 {G : ZG} {d : Nat} {iv : Nat → Nat → Int} {K : Option AV → AH → Prop} (h : (¬ (iv 0 30) = 0 → ((ckM iv) ∧ ((∀ (v3 : Nat → Nat → Int), (lineM iv v3 (flb (lnQ (iv 21) (iv 22) (iv 0 30)) 2400)) → (K (some (vi (flb (lnQ (iv 21) (iv 22) (iv 0 30)) 2400).1)) (mkM (iu v3 0 0 0))))))) ∧ ((iv 0 30) = 0 → (K (some (vi (-1))) (mkM (iu iv 0 0 6))))) : Z G mX12_longest (d + 3) 0 0 0 [vr (some 0)] [] (mkM iv) K := (Z_aload_n (dX12_longest 0) rfl (Z_gIM (x := (iv 0 30)) (dX12_longest 1) lk_X12_295 sM0 (Or.inl rfl) rfl (Z_if_ne (dX12_longest 2) rfl (fun c1 => (Z_aload_n (dX12_longest 7) rfl (Z_aload_n (dX12_longest 8) rfl (Z_cVM (As := []) (S := [vr (some 0)]) (dX12_longest 9) lk_X12_314 sM0 (by decide) rfl rfl (Nat.le_of_ble_eq_true rfl) (Nat.le_of_ble_eq_true rfl) (M_findLine  (h.1 c1).1 (fun v3 c4 => (Z_cVM (As := [vi (flb (lnQ (iv 21) (iv 22) (iv 0 30)) 2400).1]) (S := []) (dX12_longest 10) lk_X12_227 sM0 (by decide) rfl rfl (Nat.le_of_ble_eq_true rfl) (Nat.le_of_ble_eq_true rfl) (M_gives  ((Z_ireturn (dX12_longest 11) rfl ((h.1 c1).2 v3 c4))))))))))) (fun c2 => (Z_aload_n (dX12_longest 3) rfl (Z_bipush (dX12_longest 4) ⟨by decide, by decide⟩ (Z_cVM (As := [vi 6]) (S := []) (dX12_longest 5) lk_X12_221 sM0 (by decide) rfl rfl (Nat.le_of_ble_eq_true rfl) (Nat.le_of_ble_eq_true rfl) (M_refuse  ((Z_goto (dX12_longest 6) rfl (Z_ireturn (dX12_longest 11) rfl (h.2 c2))))))))))))
set_option maxRecDepth 20000 in
theorem sX12_line_0 {G : ZG} {d : Nat} {iv : Nat → Nat → Int} {K : Option AV → AH → Prop} {x1 : Int} (h : (x1 < 0 → (K (some (vi (-1))) (mkM (iu iv 0 0 1)))) ∧ (0 ≤ x1 → ((x1 ≤ 2 → ((¬ (iv 0 30) = 0 → ((ckM iv) ∧ ((∀ (v7 : Nat → Nat → Int), (lineM iv v7 (flb (lnQ (iv 21) (iv 22) (iv 0 30)) 2400)) → ((¬ x1 = 0 → ((¬ x1 = 1 → (K (some (vi (v7 0 33))) (mkM (iu v7 0 0 0)))) ∧ (x1 = 1 → (K (some (vi (v7 0 32))) (mkM (iu v7 0 0 0)))))) ∧ (x1 = 0 → (K (some (vi (v7 0 31))) (mkM (iu v7 0 0 0))))))))) ∧ ((iv 0 30) = 0 → (K (some (vi (-1))) (mkM (iu iv 0 0 6)))))) ∧ (2 < x1 → (K (some (vi (-1))) (mkM (iu iv 0 0 1))))))) : Z G mX12_line (d + 3) 0 0 0 [vr (some 0), vi x1, vu] [] (mkM iv) K := (Z_iload_n (dX12_line 0) rfl (Z_if_lt (dX12_line 1) rfl (fun c1 => (Z_aload_n (dX12_line 5) rfl (Z_iconst (dX12_line 6) ⟨by decide, by decide⟩ (Z_cVM (As := [vi 1]) (S := []) (dX12_line 7) lk_X12_221 sM0 (by decide) rfl rfl (Nat.le_of_ble_eq_true rfl) (Nat.le_of_ble_eq_true rfl) (M_refuse  ((Z_ireturn (dX12_line 8) rfl (h.1 c1)))))))) (fun c2 => (Z_iload_n (dX12_line 2) rfl (Z_iconst (dX12_line 3) ⟨by decide, by decide⟩ (Z_icmp_le (dX12_line 4) rfl (fun c3 => (Z_aload_n (dX12_line 9) rfl (Z_gIM (x := (iv 0 30)) (dX12_line 10) lk_X12_295 sM0 (Or.inl rfl) rfl (Z_if_ne (dX12_line 11) rfl (fun c5 => (Z_aload_n (dX12_line 16) rfl (Z_cVM (As := []) (S := []) (dX12_line 17) lk_X12_314 sM0 (by decide) rfl rfl (Nat.le_of_ble_eq_true rfl) (Nat.le_of_ble_eq_true rfl) (M_findLine  (((h.2 c2).1 c3).1 c5).1 (fun v7 c8 => (Z_istore_n (dX12_line 18) (Nat.le_of_ble_eq_true rfl) rfl (Z_aload_n (dX12_line 19) rfl (Z_iload_n (dX12_line 20) rfl (Z_if_ne (dX12_line 21) rfl (fun c9 => (Z_iload_n (dX12_line 25) rfl (Z_iconst (dX12_line 26) ⟨by decide, by decide⟩ (Z_icmp_ne (dX12_line 27) rfl (fun c11 => (Z_aload_n (dX12_line 31) rfl (Z_gIM (x := (v7 0 33)) (dX12_line 32) lk_X12_311 sM0 (Or.inl rfl) rfl (Z_cVM (As := [vi (v7 0 33)]) (S := []) (dX12_line 33) lk_X12_227 sM0 (by decide) rfl rfl (Nat.le_of_ble_eq_true rfl) (Nat.le_of_ble_eq_true rfl) (M_gives  ((Z_ireturn (dX12_line 34) rfl ((((((h.2 c2).1 c3).1 c5).2 v7 c8).1 c9).1 c11)))))))) (fun c12 => (Z_aload_n (dX12_line 28) rfl (Z_gIM (x := (v7 0 32)) (dX12_line 29) lk_X12_308 sM0 (Or.inl rfl) rfl (Z_goto (dX12_line 30) rfl (Z_cVM (As := [vi (v7 0 32)]) (S := []) (dX12_line 33) lk_X12_227 sM0 (by decide) rfl rfl (Nat.le_of_ble_eq_true rfl) (Nat.le_of_ble_eq_true rfl) (M_gives  ((Z_ireturn (dX12_line 34) rfl ((((((h.2 c2).1 c3).1 c5).2 v7 c8).1 c9).2 c12))))))))))))) (fun c10 => (Z_aload_n (dX12_line 22) rfl (Z_gIM (x := (v7 0 31)) (dX12_line 23) lk_X12_305 sM0 (Or.inl rfl) rfl (Z_goto (dX12_line 24) rfl (Z_cVM (As := [vi (v7 0 31)]) (S := []) (dX12_line 33) lk_X12_227 sM0 (by decide) rfl rfl (Nat.le_of_ble_eq_true rfl) (Nat.le_of_ble_eq_true rfl) (M_gives  ((Z_ireturn (dX12_line 34) rfl (((((h.2 c2).1 c3).1 c5).2 v7 c8).2 c10)))))))))))))))))) (fun c6 => (Z_aload_n (dX12_line 12) rfl (Z_bipush (dX12_line 13) ⟨by decide, by decide⟩ (Z_cVM (As := [vi 6]) (S := []) (dX12_line 14) lk_X12_221 sM0 (by decide) rfl rfl (Nat.le_of_ble_eq_true rfl) (Nat.le_of_ble_eq_true rfl) (M_refuse  ((Z_ireturn (dX12_line 15) rfl (((h.2 c2).1 c3).2 c6)))))))))))) (fun c4 => (Z_aload_n (dX12_line 5) rfl (Z_iconst (dX12_line 6) ⟨by decide, by decide⟩ (Z_cVM (As := [vi 1]) (S := []) (dX12_line 7) lk_X12_221 sM0 (by decide) rfl rfl (Nat.le_of_ble_eq_true rfl) (Nat.le_of_ble_eq_true rfl) (M_refuse  ((Z_ireturn (dX12_line 8) rfl ((h.2 c2).2 c4))))))))))))))

