/-! ===== knocks ===== -/
def kAdd (iv v : Nat → Nat → Int) (t p : Int) : Prop := (∀ i j, i ≠ 37 → i ≠ 38 → ¬ (i = 36 ∧ j = 3) → v i j = iv i j) ∧ v 36 3 = iv 36 3 + 1 ∧ nOk v ∧ ∀ x : Int, knv (v 37) (v 38) (v 36 3) x = if x = t then p else knv (iv 37) (iv 38) (iv 36 3) x
/-- a row with one more put in at k -/
def insA (f : Nat → Int) (k : Int) (x : Int) : Int → Int := fun i => if i < k then f i.toNat else if i = k then x else f (i - 1).toNat
theorem kAdd_ins {iv v : Nat → Nat → Int} {t p k : Int} (h : nOk iv) (hm : iv 36 3 < 16) (ht : 0 ≤ t ∧ t ≤ 10000) (hp : -400 ≤ p ∧ p ≤ 400) (hk : 0 ≤ k ∧ k ≤ iv 36 3) (no : knI (iv 37) (iv 36 3) t = -1) (lo : ∀ i : Int, 0 ≤ i → i < k → iv 37 i.toNat < t) (hi : ∀ i : Int, k ≤ i → i < iv 36 3 → t < iv 37 i.toNat) (f : ∀ i j, i ≠ 37 → i ≠ 38 → ¬ (i = 36 ∧ j = 3) → v i j = iv i j) (e3 : v 36 3 = iv 36 3 + 1) (e1 : ∀ i : Int, 0 ≤ i → i ≤ iv 36 3 → v 37 i.toNat = insA (iv 37) k t i) (e2 : ∀ i : Int, 0 ≤ i → i ≤ iv 36 3 → v 38 i.toNat = insA (iv 38) k p i) : kAdd iv v t p := by
  have sv : sK (v 37) (v 36 3) := by
    intro i j a b c
    rw [e1 i a (by omega), e1 j (by omega) (by omega)]
    unfold insA
    by_cases g1 : i < k
    · rw [if_pos g1]
      by_cases g2 : j < k
      · rw [if_pos g2]; exact h.2.2 i j a b (by omega)
      · rw [if_neg g2]
        have := lo i a g1
        by_cases g3 : j = k
        · rw [if_pos g3]; exact this
        · rw [if_neg g3]; have := hi (j - 1) (by omega) (by omega); omega
    · rw [if_neg g1, if_neg (show ¬ j < k by omega), if_neg (show ¬ j = k by omega)]
      by_cases g3 : i = k
      · rw [if_pos g3]; exact hi (j - 1) (by omega) (by omega)
      · rw [if_neg g3]; exact h.2.2 (i - 1) (j - 1) (by omega) (by omega) (by omega)
  have kv : kOk (v 37) (v 38) (v 36 3) := by
    refine ⟨by omega, fun i a b => ?_⟩
    rw [e2 i a (by omega)]
    unfold insA
    split
    · exact h.1.2 i a (by omega)
    · split
      · exact hp
      · exact h.1.2 (i - 1) (by omega) (by omega)
  have tv : ∀ i : Int, 0 ≤ i → i < v 36 3 → 0 ≤ v 37 i.toNat ∧ v 37 i.toNat ≤ 10000 := by
    intro i a b
    rw [e1 i a (by omega)]
    unfold insA
    split
    · exact h.2.1 i a (by omega)
    · split
      · exact ht
      · exact h.2.1 (i - 1) (by omega) (by omega)
  refine ⟨f, e3, ⟨kv, tv, sv⟩, fun x => ?_⟩
  have at1 := fun i q => knv_at (g := v 38) sv (k := i) q
  have m0 := h.1.1
  by_cases g : x = t
  · rw [if_pos g, g]
    have := at1 k (by omega)
    rw [e1 k hk.1 hk.2, e2 k hk.1 hk.2] at this
    unfold insA at this
    rw [if_neg (by omega), if_pos rfl, if_neg (by omega), if_pos rfl] at this
    exact this
  · rw [if_neg g]
    rcases knI_r (f := iv 37) (t := x) m0.1 with q | ⟨a, b⟩
    · have n1 : knv (iv 37) (iv 38) (iv 36 3) x = 1000 := by unfold knv; rw [if_pos q]
      rw [n1]
      apply knv_no (by omega)
      intro i i0 i1 e
      rw [e1 i i0 (by omega)] at e
      unfold knI at q
      rw [ffirst_none _ _ (Int.le_refl _)] at q
      unfold insA at e
      split at e
      · exact q i i0 (by omega) e
      · split at e
        · exact g e.symm
        · exact q (i - 1) (by omega) (by omega) e
    · have n1 : knv (iv 37) (iv 38) (iv 36 3) x = iv 38 (knI (iv 37) (iv 36 3) x).toNat := by unfold knv; rw [if_neg (by omega)]
      rw [n1]
      generalize knI (iv 37) (iv 36 3) x = i at *
      by_cases g1 : i < k
      · have := at1 i (by omega)
        rw [e1 i a.1 (by omega), e2 i a.1 (by omega)] at this
        unfold insA at this
        rw [if_pos g1, if_pos g1, b] at this
        exact this
      · have := at1 (i + 1) (by omega)
        rw [e1 (i + 1) (by omega) (by omega), e2 (i + 1) (by omega) (by omega)] at this
        unfold insA at this
        rw [if_neg (by omega), if_neg (by omega), if_neg (by omega), if_neg (by omega), show i + 1 - 1 = i by omega, b] at this
        exact this
theorem C_addKnock {G : ZG} {d : Nat} {iv : Nat → Nat → Int} {K : Option AV → AH → Prop} {rv : Nat → Nat → Option Nat} {x1 x2 : Int} (hR : RC rv) (h : nOk iv) (hm : iv 36 3 < 16) (ht : 0 ≤ x1 ∧ x1 ≤ 10000) (hp : -400 ≤ x2 ∧ x2 ≤ 400) (no : knI (iv 37) (iv 36 3) x1 = -1) (k : ∀ v : Nat → Nat → Int, kAdd iv v x1 x2 → K none (mkC v rv)) : Z G mX2_add d 0 0 0 [vr (some 36), vi x1, vi x2, vu] [] (mkC iv rv) K := by
  have m0 := h.1.1
  have no' : ∀ i : Int, 0 ≤ i → i < iv 36 3 → iv 37 i.toNat ≠ x1 := by
    unfold knI at no
    rw [ffirst_none _ _ (Int.le_refl _)] at no
    intro i a b
    exact no i a (by omega)
  apply sX2_add_0 hR
  refine lp_dn (P := fun q v => Z G mX2_add d 0 0 5 [vr (some 36), vi x1, vi x2, vi q] [] (mkC v rv) K) 0 (fun q v => q ≤ iv 36 3 ∧ (∀ i j, i ≠ 37 → i ≠ 38 → v i j = iv i j) ∧ (∀ i : Int, q ≤ i → i < iv 36 3 → x1 < iv 37 i.toNat) ∧ (∀ i : Int, 0 ≤ i → i < q → v 37 i.toNat = iv 37 i.toNat ∧ v 38 i.toNat = iv 38 i.toNat) ∧ (∀ i : Int, q < i → i ≤ iv 36 3 → v 37 i.toNat = iv 37 (i - 1).toNat ∧ v 38 i.toNat = iv 38 (i - 1).toNat)) ?_ ?_ (iv 36 3) iv m0.1 ⟨Int.le_refl _, fun _ _ _ _ => rfl, fun i a b => by omega, fun i a b => ⟨rfl, rfl⟩, fun i a b => by omega⟩
  all_goals
    have fin : ∀ (q : Int) (v : Nat → Nat → Int), 0 ≤ q → q ≤ iv 36 3 → (∀ i j, i ≠ 37 → i ≠ 38 → v i j = iv i j) → (∀ i : Int, q ≤ i → i < iv 36 3 → x1 < iv 37 i.toNat) → (∀ i : Int, 0 ≤ i → i < q → v 37 i.toNat = iv 37 i.toNat ∧ v 38 i.toNat = iv 38 i.toNat) → (∀ i : Int, q < i → i ≤ iv 36 3 → v 37 i.toNat = iv 37 (i - 1).toNat ∧ v 38 i.toNat = iv 38 (i - 1).toNat) → (∀ i : Int, 0 ≤ i → i < q → iv 37 i.toNat < x1) → K none (mkC (iu (iu (iu v 37 q.toNat x1) 38 q.toNat x2) 36 3 (iv 36 3 + 1)) rv) := by
      intro q v q0 q1 f hi a1 a2 lo
      refine k _ (kAdd_ins (k := q) h hm ht hp ⟨q0, q1⟩ no lo hi (fun i j b1 b2 b3 => ?_) iu_eq (fun i i0 i1 => ?_) (fun i i0 i1 => ?_))
      · rw [iu_ap, if_neg b3, iu_o b2, iu_o b1]; exact f i j b1 b2
      · rw [iu_o (by decide), iu_o (by decide)]
        unfold insA
        by_cases g : i = q
        · subst g; rw [if_neg (by omega), if_pos rfl]; exact iu_eq
        · rw [iu_k (by omega)]
          by_cases g2 : i < q
          · rw [if_pos g2]; exact (a1 i i0 g2).1
          · rw [if_neg g2, if_neg g]; exact (a2 i (by omega) i1).1
      · rw [iu_o (by decide)]
        unfold insA
        by_cases g : i = q
        · subst g; rw [if_neg (by omega), if_pos rfl]; exact iu_eq
        · rw [iu_k (by omega), iu_o (by decide)]
          by_cases g2 : i < q
          · rw [if_pos g2]; exact (a1 i i0 g2).2
          · rw [if_neg g2, if_neg g]; exact (a2 i (by omega) i1).2
  · rintro v ⟨q1, f, hi, a1, a2⟩
    apply sX2_add_5 hR
    rw [f 36 3 (by decide) (by decide)]
    exact ⟨fun _ => ⟨by omega, by omega, by omega, fin 0 v (by omega) q1 f hi a1 a2 (fun i a b => by omega)⟩, fun z => by omega⟩
  · rintro q v hq ⟨q1, f, hi, a1, a2⟩ ih
    apply sX2_add_5 hR
    have e := a1 (q - 1) (by omega) (by omega)
    rw [f 36 3 (by decide) (by decide), e.1, e.2]
    refine ⟨fun z => by omega, fun _ => ⟨by omega, by omega, fun c => ⟨by omega, by omega, by omega, fin q v (by omega) q1 f hi a1 a2 (fun i a b => ?_)⟩, fun c => ⟨by omega, by omega, by omega, by omega, by omega, by omega, by omega, ?_⟩⟩⟩
    · have n1 := no' (q - 1) (by omega) (by omega)
      by_cases g : i = q - 1
      · subst g; omega
      · have := h.2.2 i (q - 1) a (by omega) (by omega); omega
    · rw [show q + (-1) = q - 1 by omega]
      refine ih _ ⟨by omega, fun i j b1 b2 => ?_, fun i a b => ?_, fun i a b => ?_, fun i a b => ?_⟩
      · rw [iu_o b2, iu_o b1]; exact f i j b1 b2
      · by_cases g : i = q - 1
        · subst g; exact c
        · exact hi i (by omega) b
      · rw [iu_o (by decide), iu_k (by omega), iu_k (by omega), iu_o (by decide)]
        exact a1 i a (by omega)
      · by_cases g : i = q
        · subst g
          exact ⟨by rw [iu_o (by decide)]; exact iu_eq, iu_eq⟩
        · rw [iu_o (by decide), iu_k (by omega), iu_k (by omega), iu_o (by decide)]
          exact a2 i (by omega) b
set_option maxRecDepth 20000 in
theorem sX11_knock_0 {G : ZG} {d : Nat} {iv : Nat → Nat → Int} {K : Option AV → AH → Prop} {rv : Nat → Nat → Option Nat} {x1 x2 : Int} (hR : RC rv) (h : (¬ (0 ≤ x1 ∧ x1 ≤ 10000) → (K (some (vi 0)) (mkC (iu iv 0 17 1) rv))) ∧ (0 ≤ x1 ∧ x1 ≤ 10000 → (((-400) ≤ x2 ∧ x2 ≤ 400 → (((iv 36 3) < 16 → ((0 ≤ iv 36 3 ∧ iv 36 3 ≤ 16) ∧ ((¬ (¬ knI (iv 37) (iv 36 3) x1 = -1) → ((nOk iv) ∧ ((iv 36 3 < 16) ∧ ((0 ≤ x1 ∧ x1 ≤ 10000) ∧ ((-400 ≤ x2 ∧ x2 ≤ 400) ∧ ((knI (iv 37) (iv 36 3) x1 = -1) ∧ ((∀ (v9 : Nat → Nat → Int), (kAdd iv v9 x1 x2) → (K (some (vi 1)) (mkC (iu v9 0 17 0) rv)))))))))) ∧ (¬ knI (iv 37) (iv 36 3) x1 = -1 → (K (some (vi 0)) (mkC (iu iv 0 17 7) rv)))))) ∧ (16 ≤ (iv 36 3) → (K (some (vi 0)) (mkC (iu iv 0 17 4) rv))))) ∧ (¬ ((-400) ≤ x2 ∧ x2 ≤ 400) → (K (some (vi 0)) (mkC (iu iv 0 17 1) rv)))))) : Z G mX11_knock (d + 1) 0 0 0 [vr (some 0), vi x1, vi x2] [] (mkC iv rv) K := (Z_iload_n (dX11_knock 0) rfl (Z_iconst (dX11_knock 1) ⟨by decide, by decide⟩ (Z_sipush (dX11_knock 2) ⟨by decide, by decide⟩ (Z_cS (As := [vi x1, vi 0, vi 10000]) (S := []) (dX11_knock 3) lk_X11_109 rfl (Nat.le_of_ble_eq_true rfl) (Nat.le_of_ble_eq_true rfl) (C_within hR ((Z_if_eq (dX11_knock 4) rfl (fun c1 => (Z_aload_n (dX11_knock 10) rfl (Z_iconst (dX11_knock 11) ⟨by decide, by decide⟩ (Z_cVC (As := [vi 1]) (S := []) (dX11_knock 12) lk_X11_113 sC0 (by decide) rfl rfl (Nat.le_of_ble_eq_true rfl) (Nat.le_of_ble_eq_true rfl) (C_refuse hR ((Z_zreturn (dX11_knock 13) rfl (Or.inl rfl) (h.1 (b01_0.mp c1))))))))) (fun c2 => (Z_iload_n (dX11_knock 5) rfl (Z_sipush (dX11_knock 6) ⟨by decide, by decide⟩ (Z_sipush (dX11_knock 7) ⟨by decide, by decide⟩ (Z_cS (As := [vi x2, vi (-400), vi 400]) (S := []) (dX11_knock 8) lk_X11_109 rfl (Nat.le_of_ble_eq_true rfl) (Nat.le_of_ble_eq_true rfl) (C_within hR ((Z_if_ne (dX11_knock 9) rfl (fun c3 => (Z_aload_n (dX11_knock 14) rfl (Z_gRC (r := (some 36)) (dX11_knock 15) lk_X11_65 sC0 rfl (hR 7) (Z_gIC (x := (iv 36 3)) (dX11_knock 16) lk_X11_290 sC36 (Or.inl rfl) rfl (Z_bipush (dX11_knock 17) ⟨by decide, by decide⟩ (Z_icmp_lt (dX11_knock 18) rfl (fun c5 => (Z_aload_n (dX11_knock 23) rfl (Z_gRC (r := (some 36)) (dX11_knock 24) lk_X11_65 sC0 rfl (hR 7) (Z_iload_n (dX11_knock 25) rfl (Z_cVC (As := [vi x1]) (S := []) (dX11_knock 26) lk_X11_291 sC36 (by decide) rfl rfl (Nat.le_of_ble_eq_true rfl) (Nat.le_of_ble_eq_true rfl) (C_isKnockedAt hR (((h.2 (b01_n.mp c2)).1 (b01_n.mp c3)).1 c5).1 ((Z_if_eq (dX11_knock 27) rfl (fun c7 => (Z_aload_n (dX11_knock 32) rfl (Z_gRC (r := (some 36)) (dX11_knock 33) lk_X11_65 sC0 rfl (hR 7) (Z_iload_n (dX11_knock 34) rfl (Z_iload_n (dX11_knock 35) rfl (Z_cVC (As := [vi x1, vi x2]) (S := []) (dX11_knock 36) lk_X11_294 sC36 (by decide) rfl rfl (Nat.le_of_ble_eq_true rfl) (Nat.le_of_ble_eq_true rfl) (C_addKnock hR ((((h.2 (b01_n.mp c2)).1 (b01_n.mp c3)).1 c5).2.1 (b01_0.mp c7)).1 ((((h.2 (b01_n.mp c2)).1 (b01_n.mp c3)).1 c5).2.1 (b01_0.mp c7)).2.1 ((((h.2 (b01_n.mp c2)).1 (b01_n.mp c3)).1 c5).2.1 (b01_0.mp c7)).2.2.1 ((((h.2 (b01_n.mp c2)).1 (b01_n.mp c3)).1 c5).2.1 (b01_0.mp c7)).2.2.2.1 ((((h.2 (b01_n.mp c2)).1 (b01_n.mp c3)).1 c5).2.1 (b01_0.mp c7)).2.2.2.2.1 (fun v9 c10 => (Z_aload_n (dX11_knock 37) rfl (Z_cVC (As := []) (S := []) (dX11_knock 38) lk_X11_120 sC0 (by decide) rfl rfl (Nat.le_of_ble_eq_true rfl) (Nat.le_of_ble_eq_true rfl) (C_accept hR ((Z_zreturn (dX11_knock 39) rfl (Or.inr rfl) (((((h.2 (b01_n.mp c2)).1 (b01_n.mp c3)).1 c5).2.1 (b01_0.mp c7)).2.2.2.2.2 v9 c10)))))))))))))) (fun c8 => (Z_aload_n (dX11_knock 28) rfl (Z_bipush (dX11_knock 29) ⟨by decide, by decide⟩ (Z_cVC (As := [vi 7]) (S := []) (dX11_knock 30) lk_X11_113 sC0 (by decide) rfl rfl (Nat.le_of_ble_eq_true rfl) (Nat.le_of_ble_eq_true rfl) (C_refuse hR ((Z_zreturn (dX11_knock 31) rfl (Or.inl rfl) ((((h.2 (b01_n.mp c2)).1 (b01_n.mp c3)).1 c5).2.2 (b01_n.mp c8))))))))))))))))) (fun c6 => (Z_aload_n (dX11_knock 19) rfl (Z_iconst (dX11_knock 20) ⟨by decide, by decide⟩ (Z_cVC (As := [vi 4]) (S := []) (dX11_knock 21) lk_X11_113 sC0 (by decide) rfl rfl (Nat.le_of_ble_eq_true rfl) (Nat.le_of_ble_eq_true rfl) (C_refuse hR ((Z_zreturn (dX11_knock 22) rfl (Or.inl rfl) (((h.2 (b01_n.mp c2)).1 (b01_n.mp c3)).2 c6)))))))))))))) (fun c4 => (Z_aload_n (dX11_knock 10) rfl (Z_iconst (dX11_knock 11) ⟨by decide, by decide⟩ (Z_cVC (As := [vi 1]) (S := []) (dX11_knock 12) lk_X11_113 sC0 (by decide) rfl rfl (Nat.le_of_ble_eq_true rfl) (Nat.le_of_ble_eq_true rfl) (C_refuse hR ((Z_zreturn (dX11_knock 13) rfl (Or.inl rfl) ((h.2 (b01_n.mp c2)).2 (b01_0.mp c4))))))))))))))))))))))))
theorem knv_snoc {f g f' g' : Nat → Int} {m t p : Int} (hm : 0 ≤ m) (no : knI f m t = -1) (e1 : ∀ i : Int, 0 ≤ i → i < m → f' i.toNat = f i.toNat ∧ g' i.toNat = g i.toNat) (ef : f' m.toNat = t) (eg : g' m.toNat = p) (x : Int) : knv f' g' (m + 1) x = if x = t then p else knv f g m x := by
  have ec : ∀ x : Int, ffirst (fun k => f' k.toNat = x) 0 m.toNat = knI f m x := by
    intro x
    unfold knI
    exact ffirst_congr _ _ (fun k a b => by rw [(e1 k a (by omega)).1])
  have e : knI f' (m + 1) x = if knI f m x = -1 then (if t = x then m else -1) else knI f m x := by
    unfold knI
    rw [show (m + 1).toNat = m.toNat + 1 by omega, ffirst_snoc _ _ (Int.le_refl _), ec x]
    unfold knI
    rw [show (0 : Int) + ((m.toNat : Nat) : Int) = m by omega, ef]
  by_cases g2 : x = t
  · rw [if_pos g2]
    unfold knv
    rw [e, g2, if_pos no, if_pos rfl, if_neg (by omega), eg]
  · rw [if_neg g2]
    unfold knv
    rw [e]
    by_cases q : knI f m x = -1
    · rw [if_pos q, if_pos q, if_neg (fun z : t = x => g2 z.symm), if_pos rfl]
    · rw [if_neg q, if_neg q, if_neg q]
      have r := (knI_r (f := f) (t := x) hm).resolve_left q
      exact (e1 _ r.1.1 r.1.2).2

