/-! ===== the order of songs: the best in the class ===== -/
def bst (F : Int → Int) : Nat → Int × Int
  | 0 => (-1, 0)
  | m + 1 => if F m = -1 then bst F m else if (bst F m).1 = -1 ∨ F m < (bst F m).1 then (F m, m) else bst F m
theorem bst_congr {F F' : Int → Int} : ∀ m : Nat, (∀ i : Int, 0 ≤ i → i < m → F i = F' i) → bst F m = bst F' m
  | 0, _ => rfl
  | m + 1, h => by
    unfold bst
    rw [bst_congr m (fun i a b => h i a (by omega)), h m (by omega) (by omega)]
theorem bst_r {F : Int → Int} : ∀ m : Nat, (bst F m).1 = -1 ∨ ((0 ≤ (bst F m).2 ∧ (bst F m).2 < m) ∧ F (bst F m).2 = (bst F m).1)
  | 0 => Or.inl rfl
  | m + 1 => by
    have ih := bst_r (F := F) m
    unfold bst
    split
    · rcases ih with q | q
      · exact Or.inl q
      · right; exact ⟨by omega, q.2⟩
    · split
      · right; exact ⟨by dsimp only; omega, rfl⟩
      · rcases ih with q | q
        · exact Or.inl q
        · right; exact ⟨by omega, q.2⟩
theorem zshl_r {n : Int} (h : 0 ≤ n ∧ n ≤ 10) : 1 ≤ zshl 1 n ∧ zshl 1 n ≤ 1024 := by
  have c : n = 0 ∨ n = 1 ∨ n = 2 ∨ n = 3 ∨ n = 4 ∨ n = 5 ∨ n = 6 ∨ n = 7 ∨ n = 8 ∨ n = 9 ∨ n = 10 := by omega
  rcases c with e | e | e | e | e | e | e | e | e | e | e <;> (subst e; decide)
abbrev lossC (iv : Nat → Nat → Int) : Int → Int := fun c => lossF (fun i => iv 13 i.toNat) (fun i => iv 12 i.toNat) (iv 30 4) (iv 30 3).toNat c
def ordOk (iv : Nat → Nat → Int) : Prop := (0 ≤ iv 30 3 ∧ iv 30 3 ≤ 10) ∧ (∀ s, 0 ≤ s → s < iv 30 3 → okSg iv s)
def srtH (h l : Nat → Int) (p : Int → Bool) (n : Nat) : List Int := srt (ahd (fun i => h i.toNat) (fun i => l i.toNat)) p n
def seqOk (iv : Nat → Nat → Int) : Prop := rl (fun i => iv 31 i.toNat) (iv 30 3).toNat = srtH (iv 13) (iv 12) (fun _ => true) (iv 30 3).toNat
theorem C_chooseSides {G : ZG} {d : Nat} {iv : Nat → Nat → Int} {K : Option AV → AH → Prop} {rv : Nat → Nat → Option Nat} (hR : RC rv) (h0 : ordOk iv) (hq : seqOk iv) (k : ∀ v : Nat → Nat → Int, (∀ i j, ¬ (i = 30 ∧ (j = 1 ∨ j = 2)) → v i j = iv i j) ∧ (v 30 2, v 30 1) = bst (lossC iv) (zshl 1 (iv 30 3)).toNat → K none (mkC v rv)) : Z G mX3_chooseSides (d + 2) 0 0 0 [vr (some 30), vr (some 10), vu, vu] [] (mkC iv rv) K := by
  obtain ⟨hn, hs⟩ := h0
  have z := zshl_r hn
  apply sX3_chooseSides_0 hR
  refine lp_up (P := fun c v => Z G mX3_chooseSides (d + 2) 0 0 12 [vr (some 30), vr (some 10), vi c, vu] [] (mkC v rv) K) (zshl 1 (iv 30 3)) (fun c v => 0 ≤ c ∧ (∀ i j, ¬ (i = 30 ∧ (j = 1 ∨ j = 2)) → v i j = iv i j) ∧ (v 30 2, v 30 1) = bst (lossC iv) c.toNat) ?_ ?_ 0 _ (by omega) ⟨by omega, fun i j a => ?_, ?_⟩
  · rintro v ⟨-, f1, f2⟩
    apply sX3_chooseSides_12 hR
    rw [f1 30 3 (by omega)]
    exact ⟨fun _ => k v ⟨f1, f2⟩, fun h => by omega⟩
  · rintro c v hc ⟨c0, f1, f2⟩ ih
    apply sX3_chooseSides_12 hR
    have r12 : v 12 = iv 12 := by funext j; exact f1 12 j (by omega)
    have r13 : v 13 = iv 13 := by funext j; exact f1 13 j (by omega)
    have r31 : v 31 = iv 31 := by funext j; exact f1 31 j (by omega)
    have eS : ∀ x, okSg v x ↔ okSg iv x := by intro x; unfold okSg; rw [r12, r13]
    have eL : lossF (fun i => v 13 i.toNat) (fun i => v 12 i.toNat) (iv 30 4) (iv 30 3).toNat c = lossC iv c := by rw [r12, r13]
    have hq' : rl (fun i => v 31 i.toNat) (iv 30 3).toNat = srtH (v 13) (v 12) (fun _ => true) (iv 30 3).toNat := by rw [r12, r13, r31]; exact hq
    rw [f1 30 3 (by omega), f1 30 4 (by omega), eL]
    have e1 : (bst (lossC iv) c.toNat).1 = v 30 2 := by rw [← f2]
    have b1 : bst (lossC iv) (c + 1).toNat = if lossC iv c = -1 then bst (lossC iv) c.toNat else if v 30 2 = -1 ∨ lossC iv c < v 30 2 then (lossC iv c, c) else bst (lossC iv) c.toNat := by
      rw [show (c + 1).toNat = c.toNat + 1 by omega]
      conv => lhs; unfold bst
      rw [e1, show ((c.toNat : Nat) : Int) = c by omega]
    have up : ∀ i j, ¬ (i = 30 ∧ (j = 1 ∨ j = 2)) → (iu (iu v 30 2 (lossC iv c)) 30 1 c) i j = iv i j := by
      intro i j a
      rw [← f1 i j a]
      unfold iu
      rw [if_neg (by omega), if_neg (by omega)]
    have put : lossC iv c ≠ -1 → (v 30 2 = -1 ∨ lossC iv c < v 30 2) → Z G mX3_chooseSides (d + 2) 0 0 12 [vr (some 30), vr (some 10), vi (c + 1), vu] [] (mkC (iu (iu v 30 2 (lossC iv c)) 30 1 c) rv) K := by
      intro n q
      refine ih _ ⟨by omega, up, ?_⟩
      rw [b1, if_neg n, if_pos q, iu_eq, iu_k (by omega), iu_eq]
    refine ⟨fun h => by omega, fun _ => ⟨hn, fun s a b => (eS s).mpr (hs s a b), hq', fun e => ⟨by omega, ih v ⟨by omega, f1, ?_⟩⟩, fun n => ⟨fun e => ⟨by omega, put n (Or.inl e)⟩, fun e => ⟨fun q => ⟨by omega, ih v ⟨by omega, f1, ?_⟩⟩, fun q => ⟨by omega, put n (Or.inr q)⟩⟩⟩⟩⟩
    · rw [b1, if_pos e]; exact f2
    · rw [b1, if_neg n, if_neg (by intro r; rcases r with r | r; exact e r; exact absurd q (Int.not_le.mpr r))]; exact f2
  · unfold iu
    rw [if_neg (by omega), if_neg (by omega)]
  · rw [iu_eq, iu_k (by omega), iu_eq]; rfl
set_option maxRecDepth 20000 in
theorem sX3_find_0 {G : ZG} {d : Nat} {iv : Nat → Nat → Int} {K : Option AV → AH → Prop} {rv : Nat → Nat → Option Nat} {x2 : Int} (hR : RC rv) (h : (¬ (iv 10 3) = (iv 30 3) → ((0 ≤ (iu (iu iv 30 3 (iv 10 3)) 30 4 x2) 30 3 ∧ (iu (iu iv 30 3 (iv 10 3)) 30 4 x2) 30 3 ≤ 10) ∧ ((∀ s, 0 ≤ s → s < (iu (iu iv 30 3 (iv 10 3)) 30 4 x2) 30 3 → okSg (iu (iu iv 30 3 (iv 10 3)) 30 4 x2) s) ∧ ((∀ (v3 : Nat → Nat → Int), ((∀ i, i ≠ 31 → v3 i = (iu (iu iv 30 3 (iv 10 3)) 30 4 x2) i) ∧ rl (fun i => v3 31 i.toNat) ((iu (iu iv 30 3 (iv 10 3)) 30 4 x2) 30 3).toNat = srt (ahC (iu (iu iv 30 3 (iv 10 3)) 30 4 x2)) (fun _ => true) ((iu (iu iv 30 3 (iv 10 3)) 30 4 x2) 30 3).toNat) → ((ordOk v3) ∧ ((seqOk v3) ∧ ((∀ (v5 : Nat → Nat → Int), ((∀ i j, ¬ (i = 30 ∧ (j = 1 ∨ j = 2)) → v5 i j = v3 i j) ∧ (v5 30 2, v5 30 1) = bst (lossC v3) (zshl 1 (v3 30 3)).toNat) → (((v5 30 2) = (-1) → (K (some (vi 0)) (mkC v5 rv))) ∧ (¬ (v5 30 2) = (-1) → (K (some (vi 1)) (mkC v5 rv))))))))))))) ∧ ((iv 10 3) = (iv 30 3) → ((x2 = (iv 30 4) → (((iv 30 2) = (-1) → (K (some (vi 0)) (mkC iv rv))) ∧ (¬ (iv 30 2) = (-1) → (K (some (vi 1)) (mkC iv rv))))) ∧ (¬ x2 = (iv 30 4) → ((0 ≤ (iu (iu iv 30 3 (iv 10 3)) 30 4 x2) 30 3 ∧ (iu (iu iv 30 3 (iv 10 3)) 30 4 x2) 30 3 ≤ 10) ∧ ((∀ s, 0 ≤ s → s < (iu (iu iv 30 3 (iv 10 3)) 30 4 x2) 30 3 → okSg (iu (iu iv 30 3 (iv 10 3)) 30 4 x2) s) ∧ ((∀ (v13 : Nat → Nat → Int), ((∀ i, i ≠ 31 → v13 i = (iu (iu iv 30 3 (iv 10 3)) 30 4 x2) i) ∧ rl (fun i => v13 31 i.toNat) ((iu (iu iv 30 3 (iv 10 3)) 30 4 x2) 30 3).toNat = srt (ahC (iu (iu iv 30 3 (iv 10 3)) 30 4 x2)) (fun _ => true) ((iu (iu iv 30 3 (iv 10 3)) 30 4 x2) 30 3).toNat) → ((ordOk v13) ∧ ((seqOk v13) ∧ ((∀ (v15 : Nat → Nat → Int), ((∀ i j, ¬ (i = 30 ∧ (j = 1 ∨ j = 2)) → v15 i j = v13 i j) ∧ (v15 30 2, v15 30 1) = bst (lossC v13) (zshl 1 (v13 30 3)).toNat) → (((v15 30 2) = (-1) → (K (some (vi 0)) (mkC v15 rv))) ∧ (¬ (v15 30 2) = (-1) → (K (some (vi 1)) (mkC v15 rv)))))))))))))))) : Z G mX3_find (d + 3) 0 0 0 [vr (some 30), vr (some 10), vi x2] [] (mkC iv rv) K := (Z_aload_n (dX3_find 0) rfl (Z_gIC (x := (iv 10 3)) (dX3_find 1) lk_X3_26 sC10 (Or.inl rfl) rfl (Z_aload_n (dX3_find 2) rfl (Z_gIC (x := (iv 30 3)) (dX3_find 3) lk_X3_15 sC30 (Or.inl rfl) rfl (Z_icmp_ne (dX3_find 4) rfl (fun c1 => (Z_aload_n (dX3_find 9) rfl (Z_aload_n (dX3_find 10) rfl (Z_gIC (x := (iv 10 3)) (dX3_find 11) lk_X3_26 sC10 (Or.inl rfl) rfl (Z_putIC (dX3_find 12) lk_X3_15 sC30 rfl (Or.inl rfl) (Z_aload_n (dX3_find 13) rfl (Z_iload_n (dX3_find 14) rfl (Z_putIC (dX3_find 15) lk_X3_31 sC30 rfl (Or.inl rfl) (Z_aload_n (dX3_find 16) rfl (Z_aload_n (dX3_find 17) rfl (Z_cVC (As := [vr (some 10)]) (S := []) (dX3_find 18) lk_X3_34 sC30 (by decide) rfl rfl (Nat.le_of_ble_eq_true rfl) (Nat.le_of_ble_eq_true rfl) (C_putInSequence hR (h.1 c1).1 (h.1 c1).2.1 (fun v3 c4 => (Z_aload_n (dX3_find 19) rfl (Z_aload_n (dX3_find 20) rfl (Z_cVC (As := [vr (some 10)]) (S := []) (dX3_find 21) lk_X3_38 sC30 (by decide) rfl rfl (Nat.le_of_ble_eq_true rfl) (Nat.le_of_ble_eq_true rfl) (C_chooseSides hR ((h.1 c1).2.2 v3 c4).1 ((h.1 c1).2.2 v3 c4).2.1 (fun v5 c6 => (Z_aload_n (dX3_find 22) rfl (Z_gIC (x := (v5 30 2)) (dX3_find 23) lk_X3_41 sC30 (Or.inl rfl) rfl (Z_iconst (dX3_find 24) ⟨by decide, by decide⟩ (Z_icmp_eq (dX3_find 25) rfl (fun c7 => (Z_iconst (dX3_find 28) ⟨by decide, by decide⟩ (Z_zreturn (dX3_find 29) rfl (Or.inl rfl) ((((h.1 c1).2.2 v3 c4).2.2 v5 c6).1 c7)))) (fun c8 => (Z_iconst (dX3_find 26) ⟨by decide, by decide⟩ (Z_goto (dX3_find 27) rfl (Z_zreturn (dX3_find 29) rfl (Or.inr rfl) ((((h.1 c1).2.2 v3 c4).2.2 v5 c6).2 c8))))))))))))))))))))))))))) (fun c2 => (Z_iload_n (dX3_find 5) rfl (Z_aload_n (dX3_find 6) rfl (Z_gIC (x := (iv 30 4)) (dX3_find 7) lk_X3_31 sC30 (Or.inl rfl) rfl (Z_icmp_eq (dX3_find 8) rfl (fun c9 => (Z_aload_n (dX3_find 22) rfl (Z_gIC (x := (iv 30 2)) (dX3_find 23) lk_X3_41 sC30 (Or.inl rfl) rfl (Z_iconst (dX3_find 24) ⟨by decide, by decide⟩ (Z_icmp_eq (dX3_find 25) rfl (fun c11 => (Z_iconst (dX3_find 28) ⟨by decide, by decide⟩ (Z_zreturn (dX3_find 29) rfl (Or.inl rfl) (((h.2 c2).1 c9).1 c11)))) (fun c12 => (Z_iconst (dX3_find 26) ⟨by decide, by decide⟩ (Z_goto (dX3_find 27) rfl (Z_zreturn (dX3_find 29) rfl (Or.inr rfl) (((h.2 c2).1 c9).2 c12)))))))))) (fun c10 => (Z_aload_n (dX3_find 9) rfl (Z_aload_n (dX3_find 10) rfl (Z_gIC (x := (iv 10 3)) (dX3_find 11) lk_X3_26 sC10 (Or.inl rfl) rfl (Z_putIC (dX3_find 12) lk_X3_15 sC30 rfl (Or.inl rfl) (Z_aload_n (dX3_find 13) rfl (Z_iload_n (dX3_find 14) rfl (Z_putIC (dX3_find 15) lk_X3_31 sC30 rfl (Or.inl rfl) (Z_aload_n (dX3_find 16) rfl (Z_aload_n (dX3_find 17) rfl (Z_cVC (As := [vr (some 10)]) (S := []) (dX3_find 18) lk_X3_34 sC30 (by decide) rfl rfl (Nat.le_of_ble_eq_true rfl) (Nat.le_of_ble_eq_true rfl) (C_putInSequence hR ((h.2 c2).2 c10).1 ((h.2 c2).2 c10).2.1 (fun v13 c14 => (Z_aload_n (dX3_find 19) rfl (Z_aload_n (dX3_find 20) rfl (Z_cVC (As := [vr (some 10)]) (S := []) (dX3_find 21) lk_X3_38 sC30 (by decide) rfl rfl (Nat.le_of_ble_eq_true rfl) (Nat.le_of_ble_eq_true rfl) (C_chooseSides hR (((h.2 c2).2 c10).2.2 v13 c14).1 (((h.2 c2).2 c10).2.2 v13 c14).2.1 (fun v15 c16 => (Z_aload_n (dX3_find 22) rfl (Z_gIC (x := (v15 30 2)) (dX3_find 23) lk_X3_41 sC30 (Or.inl rfl) rfl (Z_iconst (dX3_find 24) ⟨by decide, by decide⟩ (Z_icmp_eq (dX3_find 25) rfl (fun c17 => (Z_iconst (dX3_find 28) ⟨by decide, by decide⟩ (Z_zreturn (dX3_find 29) rfl (Or.inl rfl) (((((h.2 c2).2 c10).2.2 v13 c14).2.2 v15 c16).1 c17)))) (fun c18 => (Z_iconst (dX3_find 26) ⟨by decide, by decide⟩ (Z_goto (dX3_find 27) rfl (Z_zreturn (dX3_find 29) rfl (Or.inr rfl) (((((h.2 c2).2 c10).2.2 v13 c14).2.2 v15 c16).2 c18)))))))))))))))))))))))))))))))))))))
/-- place k of a row that is read from its end -/
def seqAt (L : List Int) (k : Int) : Int := if 0 ≤ k then L.reverse.getD k.toNat (-1) else -1
theorem rl_split {f : Int → Int} {j : Int} (h : 0 ≤ j) : ∀ n : Nat, j < n → ∃ T, rl f n = T ++ f j :: rl f j.toNat
  | 0, q => by omega
  | n + 1, q => by
    by_cases e : j = n
    · refine ⟨[], ?_⟩
      subst e
      rfl
    · obtain ⟨T, hT⟩ := rl_split h n (by omega)
      exact ⟨f n :: T, by show f n :: rl f n = _; rw [hT]; rfl⟩
theorem seqAt_hit {f : Int → Int} {p : Int → Bool} {j : Int} {n : Nat} (h : 0 ≤ j) (hn : j < n) (hp : p (f j) = true) : seqAt ((rl f n).filter p) ((rl f j.toNat).filter p).length = f j := by
  obtain ⟨T, hT⟩ := rl_split (f := f) h n hn
  unfold seqAt
  rw [if_pos (by omega), hT, List.filter_append, List.filter_cons_of_pos hp, List.reverse_append, List.reverse_cons, List.append_assoc]
  simp [List.getD]
theorem seqAt_off {L : List Int} {k : Int} (h : k < 0 ∨ L.length ≤ k) : seqAt L k = -1 := by
  unfold seqAt
  split
  · rw [List.getD_eq_getElem?_getD, List.getElem?_eq_none (by rw [List.length_reverse]; omega)]; rfl
  · rfl
def sgsOk (iv : Nat → Nat → Int) : Prop := (0 ≤ iv 10 3 ∧ iv 10 3 ≤ 10) ∧ (∀ s, 0 ≤ s → s < iv 10 3 → okSg iv s)
def bestOk (iv : Nat → Nat → Int) : Prop := seqOk iv ∧ (iv 30 2, iv 30 1) = bst (lossC iv) (zshl 1 (iv 30 3)).toNat
def OrF (iv v : Nat → Nat → Int) : Prop := ∀ i j, i ≠ 31 → ¬ (i = 30 ∧ (j = 1 ∨ j = 2 ∨ j = 3 ∨ j = 4)) → v i j = iv i j
theorem OrF.row {iv v : Nat → Nat → Int} {i : Nat} (h : OrF iv v) (h1 : i ≠ 31) (h2 : i ≠ 30) : v i = iv i := by
  funext j; exact h i j h1 (fun q => h2 q.1)
theorem C_find {G : ZG} {d : Nat} {iv : Nat → Nat → Int} {K : Option AV → AH → Prop} {rv : Nat → Nat → Option Nat} {x2 : Int} (hR : RC rv) (h0 : sgsOk iv) (hc : iv 10 3 = iv 30 3 → x2 = iv 30 4 → bestOk iv) (k : ∀ v : Nat → Nat → Int, OrF iv v ∧ v 30 3 = iv 10 3 ∧ v 30 4 = x2 ∧ bestOk v → K (some (vi (b01 (¬ v 30 2 = -1)))) (mkC v rv)) : Z G mX3_find (d + 3) 0 0 0 [vr (some 30), vr (some 10), vi x2] [] (mkC iv rv) K := by
  apply sX3_find_0 hR
  have u3 : (iu (iu iv 30 3 (iv 10 3)) 30 4 x2) 30 3 = iv 10 3 := by rw [iu_k (by omega), iu_eq]
  have uo : ∀ i, i ≠ 30 → (iu (iu iv 30 3 (iv 10 3)) 30 4 x2) i = iv i := by
    intro i hi
    funext j
    rw [iu_o hi, iu_o hi]
  have uS : ∀ s, okSg (iu (iu iv 30 3 (iv 10 3)) 30 4 x2) s ↔ okSg iv s := by intro s; unfold okSg; rw [uo 12 (by omega), uo 13 (by omega)]
  have fin : ∀ v, OrF iv v ∧ v 30 3 = iv 10 3 ∧ v 30 4 = x2 ∧ bestOk v → (v 30 2 = -1 → K (some (vi 0)) (mkC v rv)) ∧ (¬ v 30 2 = -1 → K (some (vi 1)) (mkC v rv)) := by
    intro v hv
    have := k v hv
    unfold b01 at this
    constructor
    · intro e; rw [if_neg (fun q => q e)] at this; exact this
    · intro e; rw [if_pos e] at this; exact this
  have miss : ∀ w : Nat → Nat → Int, ((∀ i, i ≠ 31 → w i = (iu (iu iv 30 3 (iv 10 3)) 30 4 x2) i) ∧ rl (fun i => w 31 i.toNat) ((iu (iu iv 30 3 (iv 10 3)) 30 4 x2) 30 3).toNat = srt (ahC (iu (iu iv 30 3 (iv 10 3)) 30 4 x2)) (fun _ => true) ((iu (iu iv 30 3 (iv 10 3)) 30 4 x2) 30 3).toNat) → ordOk w ∧ seqOk w ∧ ∀ v : Nat → Nat → Int, ((∀ i j, ¬ (i = 30 ∧ (j = 1 ∨ j = 2)) → v i j = w i j) ∧ (v 30 2, v 30 1) = bst (lossC w) (zshl 1 (w 30 3)).toNat) → (v 30 2 = -1 → K (some (vi 0)) (mkC v rv)) ∧ (¬ v 30 2 = -1 → K (some (vi 1)) (mkC v rv)) := by
    rintro w ⟨g1, g2⟩
    have w3 : w 30 3 = iv 10 3 := by rw [g1 30 (by omega), u3]
    have w4 : w 30 4 = x2 := by rw [g1 30 (by omega), iu_eq]
    have w12 : w 12 = iv 12 := by rw [g1 12 (by omega), uo 12 (by omega)]
    have w13 : w 13 = iv 13 := by rw [g1 13 (by omega), uo 13 (by omega)]
    have wS : ∀ s, okSg w s ↔ okSg iv s := by intro s; unfold okSg; rw [w12, w13]
    have g2' : rl (fun i => w 31 i.toNat) ((iu (iu iv 30 3 (iv 10 3)) 30 4 x2) 30 3).toNat = srtH ((iu (iu iv 30 3 (iv 10 3)) 30 4 x2) 13) ((iu (iu iv 30 3 (iv 10 3)) 30 4 x2) 12) (fun _ => true) ((iu (iu iv 30 3 (iv 10 3)) 30 4 x2) 30 3).toNat := g2
    rw [u3, uo 12 (by omega), uo 13 (by omega), ← w12, ← w13, ← w3] at g2'
    refine ⟨⟨by rw [w3]; exact h0.1, fun s a b => (wS s).mpr (h0.2 s a (by omega))⟩, g2', ?_⟩
    rintro v ⟨f1, f2⟩
    have v3 : v 30 3 = w 30 3 := f1 30 3 (by omega)
    have v4 : v 30 4 = w 30 4 := f1 30 4 (by omega)
    have vr : ∀ i, i ≠ 30 → v i = w i := by intro i hi; funext j; exact f1 i j (by omega)
    refine fin v ⟨?_, by rw [v3, w3], by rw [v4, w4], ?_, ?_⟩
    · intro i j a b
      rw [f1 i j (by omega), g1 i a]
      unfold iu
      rw [if_neg (by omega), if_neg (by omega)]
    · unfold seqOk
      rw [vr 31 (by omega), vr 12 (by omega), vr 13 (by omega), v3]
      exact g2'
    · rw [f2]
      unfold lossC
      rw [vr 12 (by omega), vr 13 (by omega), v3, v4]
  refine ⟨fun n => ⟨by rw [u3]; exact h0.1, fun s a b => (uS s).mpr (h0.2 s a (by rw [u3] at b; exact b)), miss⟩, fun e => ⟨fun e2 => ?_, fun n => ⟨by rw [u3]; exact h0.1, fun s a b => (uS s).mpr (h0.2 s a (by rw [u3] at b; exact b)), miss⟩⟩⟩
  exact fin iv ⟨fun _ _ _ _ => rfl, e.symm, e2.symm, hc e e2⟩
theorem C_songOn {G : ZG} {d : Nat} {iv : Nat → Nat → Int} {K : Option AV → AH → Prop} {rv : Nat → Nat → Option Nat} {x1 x2 : Int} (hR : RC rv) (hn : 0 ≤ iv 30 3 ∧ iv 30 3 ≤ 10) (hm : ∀ i, 0 ≤ i → i < iv 30 3 → 0 ≤ iv 31 i.toNat ∧ iv 31 i.toNat < 10) (k : K (some (vi (seqAt ((rl (fun i => iv 31 i.toNat) (iv 30 3).toNat).filter (pS (iv 30 3) (iv 30 1) x1)) x2))) (mkC iv rv)) : Z G mX3_songOn (d + 1) 0 0 0 [vr (some 30), vi x1, vi x2, vu, vu] [] (mkC iv rv) K := by
  apply sX3_songOn_0 hR
  refine lp_up (P := fun j b => Z G mX3_songOn (d + 1) 0 0 5 [vr (some 30), vi x1, vi x2, vi b, vi j] [] (mkC iv rv) K) (iv 30 3) (fun j b => 0 ≤ j ∧ b = ((rl (fun i => iv 31 i.toNat) j.toNat).filter (pS (iv 30 3) (iv 30 1) x1)).length ∧ (x2 < 0 ∨ b ≤ x2) ∧ b ≤ j) ?_ ?_ 0 0 (by omega) ⟨by omega, rfl, by omega, by omega⟩
  · rintro b ⟨-, e1, e2, -⟩
    apply sX3_songOn_5 hR
    rw [seqAt_off (by omega)] at k
    exact ⟨fun _ => k, fun h => by omega⟩
  · rintro j b hj ⟨j0, e1, e2, e3⟩ ih
    apply sX3_songOn_5 hR
    have m := hm j j0 hj
    have r1 : rl (fun i => iv 31 i.toNat) (j + 1).toNat = iv 31 j.toNat :: rl (fun i => iv 31 i.toNat) j.toNat := rl_s j0
    refine ⟨fun h => by omega, fun _ => ⟨by omega, hn, m, fun n => ⟨by omega, ih b ⟨by omega, ?_, e2, by omega⟩⟩, fun e => ⟨fun n => ⟨by omega, by omega, ih (b + 1) ⟨by omega, ?_, by omega, by omega⟩⟩, fun q => ⟨by omega, ?_⟩⟩⟩⟩
    · rw [r1, List.filter_cons_of_neg (by unfold pS; simp [n])]; exact e1
    · rw [r1, List.filter_cons_of_pos (by unfold pS; simp [e]), List.length_cons]; omega
    · have := seqAt_hit (f := fun i => iv 31 i.toNat) (p := pS (iv 30 3) (iv 30 1) x1) (n := (iv 30 3).toNat) j0 (by omega) (by unfold pS; simp [e])
      rw [← q, e1, this] at k
      exact k
set_option maxRecDepth 20000 in
theorem sX11_order_0 {G : ZG} {d : Nat} {iv : Nat → Nat → Int} {K : Option AV → AH → Prop} {rv : Nat → Nat → Option Nat} (hR : RC rv) (h : (sgsOk iv) ∧ ((iv 10 3 = iv 30 3 → (iv 0 16) = iv 30 4 → bestOk iv) ∧ ((∀ (v1 : Nat → Nat → Int), (OrF iv v1 ∧ v1 30 3 = iv 10 3 ∧ v1 30 4 = (iv 0 16) ∧ bestOk v1) → ((¬ v1 30 2 = -1 → (K (some (vi (v1 30 2))) (mkC (iu v1 0 17 0) rv))) ∧ (¬ (¬ v1 30 2 = -1) → (K (some (vi (-1))) (mkC (iu v1 0 17 5) rv)))))))) : Z G mX11_order (d + 4) 0 0 0 [vr (some 0)] [] (mkC iv rv) K := (Z_aload_n (dX11_order 0) rfl (Z_gRC (r := (some 30)) (dX11_order 1) lk_X11_51 sC0 rfl (hR 5) (Z_aload_n (dX11_order 2) rfl (Z_gRC (r := (some 10)) (dX11_order 3) lk_X11_19 sC0 rfl (hR 1) (Z_aload_n (dX11_order 4) rfl (Z_gIC (x := (iv 0 16)) (dX11_order 5) lk_X11_99 sC0 (Or.inl rfl) rfl (Z_cVC (As := [vr (some 10), vi (iv 0 16)]) (S := []) (dX11_order 6) lk_X11_235 sC30 (by decide) rfl rfl (Nat.le_of_ble_eq_true rfl) (Nat.le_of_ble_eq_true rfl) (C_find hR h.1 h.2.1 (fun v1 c2 => (Z_if_ne (dX11_order 7) rfl (fun c3 => (Z_aload_n (dX11_order 12) rfl (Z_aload_n (dX11_order 13) rfl (Z_gRC (r := (some 30)) (dX11_order 14) lk_X11_51 sC0 rfl (hR 5) (Z_gIC (x := (v1 30 2)) (dX11_order 15) lk_X11_239 sC30 (Or.inl rfl) rfl (Z_cVC (As := [vi (v1 30 2)]) (S := []) (dX11_order 16) lk_X11_166 sC0 (by decide) rfl rfl (Nat.le_of_ble_eq_true rfl) (Nat.le_of_ble_eq_true rfl) (C_give hR ((Z_ireturn (dX11_order 17) rfl ((h.2.2 v1 c2).1 (b01_n.mp c3))))))))))) (fun c4 => (Z_aload_n (dX11_order 8) rfl (Z_iconst (dX11_order 9) ⟨by decide, by decide⟩ (Z_cVC (As := [vi 5]) (S := []) (dX11_order 10) lk_X11_132 sC0 (by decide) rfl rfl (Nat.le_of_ble_eq_true rfl) (Nat.le_of_ble_eq_true rfl) (C_giveNone hR ((Z_ireturn (dX11_order 11) rfl ((h.2.2 v1 c2).2 (b01_0.mp c4)))))))))))))))))))
set_option maxRecDepth 20000 in
theorem sX11_sideOf_0 {G : ZG} {d : Nat} {iv : Nat → Nat → Int} {K : Option AV → AH → Prop} {rv : Nat → Nat → Option Nat} {x1 : Int} (hR : RC rv) (h : (0 ≤ (iv 10 3) ∧ (iv 10 3) ≤ 10) ∧ ((0 ≤ x1 ∧ x1 < (iv 10 3) → ((sgsOk iv) ∧ ((iv 10 3 = iv 30 3 → (iv 0 16) = iv 30 4 → bestOk iv) ∧ ((∀ (v3 : Nat → Nat → Int), (OrF iv v3 ∧ v3 30 3 = iv 10 3 ∧ v3 30 4 = (iv 0 16) ∧ bestOk v3) → ((¬ v3 30 2 = -1 → ((0 ≤ v3 30 3 ∧ v3 30 3 ≤ 10) ∧ ((0 ≤ x1 ∧ x1 < 10) ∧ (K (some (vi (sdIn (v3 30 3) (v3 30 1) x1))) (mkC (iu v3 0 17 0) rv))))) ∧ (¬ (¬ v3 30 2 = -1) → (K (some (vi (-1))) (mkC (iu v3 0 17 5) rv))))))))) ∧ (¬ (0 ≤ x1 ∧ x1 < (iv 10 3)) → (K (some (vi (-1))) (mkC (iu iv 0 17 1) rv))))) : Z G mX11_sideOf (d + 4) 0 0 0 [vr (some 0), vi x1] [] (mkC iv rv) K := (Z_aload_n (dX11_sideOf 0) rfl (Z_gRC (r := (some 10)) (dX11_sideOf 1) lk_X11_19 sC0 rfl (hR 1) (Z_iload_n (dX11_sideOf 2) rfl (Z_cVC (As := [vi x1]) (S := []) (dX11_sideOf 3) lk_X11_169 sC10 (by decide) rfl rfl (Nat.le_of_ble_eq_true rfl) (Nat.le_of_ble_eq_true rfl) (C_has hR h.1 ((Z_if_ne (dX11_sideOf 4) rfl (fun c1 => (Z_aload_n (dX11_sideOf 9) rfl (Z_gRC (r := (some 30)) (dX11_sideOf 10) lk_X11_51 sC0 rfl (hR 5) (Z_aload_n (dX11_sideOf 11) rfl (Z_gRC (r := (some 10)) (dX11_sideOf 12) lk_X11_19 sC0 rfl (hR 1) (Z_aload_n (dX11_sideOf 13) rfl (Z_gIC (x := (iv 0 16)) (dX11_sideOf 14) lk_X11_99 sC0 (Or.inl rfl) rfl (Z_cVC (As := [vr (some 10), vi (iv 0 16)]) (S := []) (dX11_sideOf 15) lk_X11_235 sC30 (by decide) rfl rfl (Nat.le_of_ble_eq_true rfl) (Nat.le_of_ble_eq_true rfl) (C_find hR (h.2.1 (b01_n.mp c1)).1 (h.2.1 (b01_n.mp c1)).2.1 (fun v3 c4 => (Z_if_ne (dX11_sideOf 16) rfl (fun c5 => (Z_aload_n (dX11_sideOf 21) rfl (Z_aload_n (dX11_sideOf 22) rfl (Z_gRC (r := (some 30)) (dX11_sideOf 23) lk_X11_51 sC0 rfl (hR 5) (Z_aload_n (dX11_sideOf 24) rfl (Z_gRC (r := (some 30)) (dX11_sideOf 25) lk_X11_51 sC0 rfl (hR 5) (Z_gIC (x := (v3 30 1)) (dX11_sideOf 26) lk_X11_242 sC30 (Or.inl rfl) rfl (Z_iload_n (dX11_sideOf 27) rfl (Z_cVC (As := [vi (v3 30 1), vi x1]) (S := [vr (some 0)]) (dX11_sideOf 28) lk_X11_245 sC30 (by decide) rfl rfl (Nat.le_of_ble_eq_true rfl) (Nat.le_of_ble_eq_true rfl) (C_sideIn hR (((h.2.1 (b01_n.mp c1)).2.2 v3 c4).1 (b01_n.mp c5)).1 (((h.2.1 (b01_n.mp c1)).2.2 v3 c4).1 (b01_n.mp c5)).2.1 ((Z_cVC (As := [vi (sdIn (v3 30 3) (v3 30 1) x1)]) (S := []) (dX11_sideOf 29) lk_X11_166 sC0 (by decide) rfl rfl (Nat.le_of_ble_eq_true rfl) (Nat.le_of_ble_eq_true rfl) (C_give hR ((Z_ireturn (dX11_sideOf 30) rfl (((h.2.1 (b01_n.mp c1)).2.2 v3 c4).1 (b01_n.mp c5)).2.2))))))))))))))) (fun c6 => (Z_aload_n (dX11_sideOf 17) rfl (Z_iconst (dX11_sideOf 18) ⟨by decide, by decide⟩ (Z_cVC (As := [vi 5]) (S := []) (dX11_sideOf 19) lk_X11_132 sC0 (by decide) rfl rfl (Nat.le_of_ble_eq_true rfl) (Nat.le_of_ble_eq_true rfl) (C_giveNone hR ((Z_ireturn (dX11_sideOf 20) rfl (((h.2.1 (b01_n.mp c1)).2.2 v3 c4).2 (b01_0.mp c6)))))))))))))))))))) (fun c2 => (Z_aload_n (dX11_sideOf 5) rfl (Z_iconst (dX11_sideOf 6) ⟨by decide, by decide⟩ (Z_cVC (As := [vi 1]) (S := []) (dX11_sideOf 7) lk_X11_132 sC0 (by decide) rfl rfl (Nat.le_of_ble_eq_true rfl) (Nat.le_of_ble_eq_true rfl) (C_giveNone hR ((Z_ireturn (dX11_sideOf 8) rfl (h.2.2 (b01_0.mp c2))))))))))))))))
set_option maxRecDepth 20000 in
theorem sX11_songAt_0 {G : ZG} {d : Nat} {iv : Nat → Nat → Int} {K : Option AV → AH → Prop} {rv : Nat → Nat → Option Nat} {x1 x2 : Int} (hR : RC rv) (h : (0 ≤ x1 ∧ x1 ≤ 1 → ((sgsOk iv) ∧ ((iv 10 3 = iv 30 3 → (iv 0 16) = iv 30 4 → bestOk iv) ∧ ((∀ (v3 : Nat → Nat → Int), (OrF iv v3 ∧ v3 30 3 = iv 10 3 ∧ v3 30 4 = (iv 0 16) ∧ bestOk v3) → ((¬ v3 30 2 = -1 → ((0 ≤ v3 30 3 ∧ v3 30 3 ≤ 10) ∧ ((∀ i : Int, 0 ≤ i → i < v3 30 3 → 0 ≤ v3 31 i.toNat ∧ v3 31 i.toNat < 10) ∧ (K (some (vi (seqAt ((rl (fun i => v3 31 i.toNat) (v3 30 3).toNat).filter (pS (v3 30 3) (v3 30 1) x1)) x2))) (mkC (iu v3 0 17 (if (seqAt ((rl (fun i => v3 31 i.toNat) (v3 30 3).toNat).filter (pS (v3 30 3) (v3 30 1) x1)) x2) = -1 then 6 else 0)) rv))))) ∧ (¬ (¬ v3 30 2 = -1) → (K (some (vi (-1))) (mkC (iu v3 0 17 5) rv))))))))) ∧ (¬ (0 ≤ x1 ∧ x1 ≤ 1) → (K (some (vi (-1))) (mkC (iu iv 0 17 1) rv)))) : Z G mX11_songAt (d + 4) 0 0 0 [vr (some 0), vi x1, vi x2] [] (mkC iv rv) K := (Z_aload_n (dX11_songAt 0) rfl (Z_iload_n (dX11_songAt 1) rfl (Z_cVC (As := [vi x1]) (S := []) (dX11_songAt 2) lk_X11_185 sC0 (by decide) rfl rfl (Nat.le_of_ble_eq_true rfl) (Nat.le_of_ble_eq_true rfl) (C_isSide hR ((Z_if_ne (dX11_songAt 3) rfl (fun c1 => (Z_aload_n (dX11_songAt 8) rfl (Z_gRC (r := (some 30)) (dX11_songAt 9) lk_X11_51 sC0 rfl (hR 5) (Z_aload_n (dX11_songAt 10) rfl (Z_gRC (r := (some 10)) (dX11_songAt 11) lk_X11_19 sC0 rfl (hR 1) (Z_aload_n (dX11_songAt 12) rfl (Z_gIC (x := (iv 0 16)) (dX11_songAt 13) lk_X11_99 sC0 (Or.inl rfl) rfl (Z_cVC (As := [vr (some 10), vi (iv 0 16)]) (S := []) (dX11_songAt 14) lk_X11_235 sC30 (by decide) rfl rfl (Nat.le_of_ble_eq_true rfl) (Nat.le_of_ble_eq_true rfl) (C_find hR (h.1 (b01_n.mp c1)).1 (h.1 (b01_n.mp c1)).2.1 (fun v3 c4 => (Z_if_ne (dX11_songAt 15) rfl (fun c5 => (Z_aload_n (dX11_songAt 20) rfl (Z_aload_n (dX11_songAt 21) rfl (Z_gRC (r := (some 30)) (dX11_songAt 22) lk_X11_51 sC0 rfl (hR 5) (Z_iload_n (dX11_songAt 23) rfl (Z_iload_n (dX11_songAt 24) rfl (Z_cVC (As := [vi x1, vi x2]) (S := [vr (some 0)]) (dX11_songAt 25) lk_X11_248 sC30 (by decide) rfl rfl (Nat.le_of_ble_eq_true rfl) (Nat.le_of_ble_eq_true rfl) (C_songOn hR (((h.1 (b01_n.mp c1)).2.2 v3 c4).1 (b01_n.mp c5)).1 (((h.1 (b01_n.mp c1)).2.2 v3 c4).1 (b01_n.mp c5)).2.1 ((Z_cVC (As := [vi (seqAt ((rl (fun i => v3 31 i.toNat) (v3 30 3).toNat).filter (pS (v3 30 3) (v3 30 1) x1)) x2)]) (S := []) (dX11_songAt 26) lk_X11_223 sC0 (by decide) rfl rfl (Nat.le_of_ble_eq_true rfl) (Nat.le_of_ble_eq_true rfl) (C_giveIfAny hR ((Z_ireturn (dX11_songAt 27) rfl (((h.1 (b01_n.mp c1)).2.2 v3 c4).1 (b01_n.mp c5)).2.2))))))))))))) (fun c6 => (Z_aload_n (dX11_songAt 16) rfl (Z_iconst (dX11_songAt 17) ⟨by decide, by decide⟩ (Z_cVC (As := [vi 5]) (S := []) (dX11_songAt 18) lk_X11_132 sC0 (by decide) rfl rfl (Nat.le_of_ble_eq_true rfl) (Nat.le_of_ble_eq_true rfl) (C_giveNone hR ((Z_ireturn (dX11_songAt 19) rfl (((h.1 (b01_n.mp c1)).2.2 v3 c4).2 (b01_0.mp c6)))))))))))))))))))) (fun c2 => (Z_aload_n (dX11_songAt 4) rfl (Z_iconst (dX11_songAt 5) ⟨by decide, by decide⟩ (Z_cVC (As := [vi 1]) (S := []) (dX11_songAt 6) lk_X11_132 sC0 (by decide) rfl rfl (Nat.le_of_ble_eq_true rfl) (Nat.le_of_ble_eq_true rfl) (C_giveNone hR ((Z_ireturn (dX11_songAt 7) rfl (h.2 (b01_0.mp c2)))))))))))))))
set_option maxRecDepth 20000 in
theorem sX11_press_0 {G : ZG} {d : Nat} {iv : Nat → Nat → Int} {K : Option AV → AH → Prop} {rv : Nat → Nat → Option Nat} (hR : RC rv) (h : (sgsOk iv) ∧ ((iv 10 3 = iv 30 3 → (iv 0 16) = iv 30 4 → bestOk iv) ∧ ((∀ (v1 : Nat → Nat → Int), (OrF iv v1 ∧ v1 30 3 = iv 10 3 ∧ v1 30 4 = (iv 0 16) ∧ bestOk v1) → ((¬ v1 30 2 = -1 → (Z G mX11_press (d + 4) 0 0 26 [vr (some 0), vi 0, vu] [] (mkC v1 rv) K)) ∧ (¬ (¬ v1 30 2 = -1) → (K (some (vi 0)) (mkC (iu v1 0 17 5) rv)))))))) : Z G mX11_press (d + 4) 0 0 0 [vr (some 0), vu, vu] [] (mkC iv rv) K := (Z_aload_n (dX11_press 0) rfl (Z_gRC (r := (some 30)) (dX11_press 1) lk_X11_51 sC0 rfl (hR 5) (Z_aload_n (dX11_press 2) rfl (Z_gRC (r := (some 10)) (dX11_press 3) lk_X11_19 sC0 rfl (hR 1) (Z_aload_n (dX11_press 4) rfl (Z_gIC (x := (iv 0 16)) (dX11_press 5) lk_X11_99 sC0 (Or.inl rfl) rfl (Z_cVC (As := [vr (some 10), vi (iv 0 16)]) (S := []) (dX11_press 6) lk_X11_235 sC30 (by decide) rfl rfl (Nat.le_of_ble_eq_true rfl) (Nat.le_of_ble_eq_true rfl) (C_find hR h.1 h.2.1 (fun v1 c2 => (Z_if_ne (dX11_press 7) rfl (fun c3 => (Z_iconst (dX11_press 12) ⟨by decide, by decide⟩ (Z_istore_n (dX11_press 13) (Nat.le_of_ble_eq_true rfl) rfl ((h.2.2 v1 c2).1 (b01_n.mp c3))))) (fun c4 => (Z_aload_n (dX11_press 8) rfl (Z_iconst (dX11_press 9) ⟨by decide, by decide⟩ (Z_cVC (As := [vi 5]) (S := []) (dX11_press 10) lk_X11_113 sC0 (by decide) rfl rfl (Nat.le_of_ble_eq_true rfl) (Nat.le_of_ble_eq_true rfl) (C_refuse hR ((Z_zreturn (dX11_press 11) rfl (Or.inl rfl) ((h.2.2 v1 c2).2 (b01_0.mp c4)))))))))))))))))))

