/-! ===== the public methods: trays ===== -/
theorem trA_ne {s t : Int} (hs : 0 ≤ s ∧ s < 4) (ht : 0 ≤ t ∧ t < 4) (n : t ≠ s) : trA t ≠ trA s ∧ trA t ≠ trA s + 1 ∧ trA t + 1 ≠ trA s := by
  unfold trA; (repeat' split) <;> omega
theorem RT_u {c c' m m' : Nat → Nat → Int} {s : Int} (hs : 0 ≤ s ∧ s < 4) (h : RT c m) (hc : ∀ i j, i ≠ trA s → i ≠ trA s + 1 → 2 ≤ i ∧ i ≤ 9 → c' i j = c i j) (h1 : ∀ j, j ≠ s.toNat → m' 1 j = m 1 j ∧ m' 2 j = m 2 j) (h3 : ∀ j : Nat, (j < (60 * s).toNat ∨ (60 * s + 60).toNat ≤ j) → m' 3 j = m 3 j) (new : (0 ≤ m' 2 s.toNat ∧ m' 2 s.toNat ≤ 60) ∧ c' (trA s) 2 = m' 2 s.toNat ∧ c' (trA s) 1 = m' 1 s.toNat ∧ (0 ≤ m' 1 s.toNat ∧ m' 1 s.toNat ≤ 3) ∧ ∀ k : Int, 0 ≤ k → k < m' 2 s.toNat → c' (trA s + 1) k.toNat = m' 3 (60 * s + k).toNat) : RT c' m' := by
  intro t t0 t1
  by_cases e : t = s
  · subst e; exact Or.inr new
  · have ne := trA_ne hs ⟨t0, t1⟩ e
    have to := trA_c t
    have tn : t.toNat ≠ s.toNat := by omega
    rw [hc (trA t) 1 (by omega) (by omega) (by omega), hc (trA t) 2 (by omega) (by omega) (by omega), (h1 _ tn).1, (h1 _ tn).2]
    rcases h t t0 t1 with q | ⟨q1, q2, q3, q4, q5⟩
    · exact Or.inl q
    · refine Or.inr ⟨q1, q2, q3, q4, fun k k0 k1 => ?_⟩
      rw [hc _ _ (by omega) (by omega) (by omega), h3 _ (by omega)]
      exact q5 k k0 k1
theorem wrong_eq {c m : Nat → Nat → Int} {t p : Int} (h : RT c m) : wrongC c t p = wrongP m t p := by
  unfold wrongC wrongP
  by_cases g : 0 ≤ t ∧ t < 4
  · rw [if_neg (by omega), if_neg (c := ¬ (0 ≤ t ∧ t < 4)) (by omega)]
    rcases h t g.1 g.2 with ⟨q1, q2, q3⟩ | ⟨q1, q2, q3, q4, q5⟩
    · rw [if_pos q1, if_pos q3]
    · rw [if_neg (by omega), if_neg (c := m 2 t.toNat = -1) (by omega), q2]
      by_cases e : 0 ≤ p ∧ p ≤ m 2 t.toNat - 1
      · rw [if_pos e, if_neg (by omega)]
      · rw [if_neg e, if_pos (by omega)]
  · rw [if_pos (by omega), if_pos (by omega)]
theorem tr_b {c m : Nat → Nat → Int} {t : Int} (h : RT c m) (g : 0 ≤ t ∧ t < 4) : (0 ≤ c (trA t) 2 ∧ c (trA t) 2 ≤ 60) ∧ (-1 ≤ m 2 t.toNat ∧ m 2 t.toNat ≤ 60) := by
  rcases h t g.1 g.2 with ⟨q1, q2, q3⟩ | ⟨q1, q2, q3, q4, q5⟩ <;> omega
theorem P_tray {G G' : ZG} {c m : Nat → Nat → Int} {rv : Nat → Nat → Option Nat} {B : Int} {x1 x2 x3 : Int} (h : RL B c rv m) (hB : 0 ≤ B ∧ B ≤ 10000000) (hx1 : -2147483648 ≤ x1 ∧ x1 ≤ 2147483647) (hx2 : -2147483648 ≤ x2 ∧ x2 ≤ 2147483647) (hx3 : -2147483648 ≤ x3 ∧ x3 ≤ 2147483647) : Z G mX11_tray 40 0 0 0 [vr (some 0), vi x1, vi x2, vi x3] [] (mkC c rv) (QC G' mX12_tray [vr (some 0), vi x1, vi x2, vi x3, vu] m (B + 1000)) := by
  obtain ⟨a0, a1, a2, a3, a4, a5, a6, a7, a8, a9, a10, a11, a12, a13⟩ := id h
  have bad : ¬ okTray x1 x2 x3 → QC G' mX12_tray [vr (some 0), vi x1, vi x2, vi x3, vu] m (B + 1000) (some (vi 0)) (mkC (iu c 0 17 1) rv) := fun n => ⟨_, rv, rfl, M_tray (fun _ => QM_u h) (fun g => absurd g n)⟩
  unfold okTray at bad
  apply sX11_tray_0 a0
  refine ⟨fun b => bad (by omega), fun b => ⟨fun e => bad (by omega), fun e => ⟨fun f => ⟨by omega, ?_⟩, fun f => bad (by omega)⟩⟩⟩
  have to := trA_c x1
  refine ⟨_, rv, rfl, M_tray (fun n => absurd ⟨by omega, by omega, by omega⟩ n) (fun _ => QM_i rfl (RL_B (B := B) ?_ (by omega)))⟩
  have hc : ∀ i j, ¬ (i = 0 ∧ j = 17) → ¬ (i = trA x1 ∨ i = trA x1 + 1) → iu (ifill (iu (iu c (trA x1) 1 x2) (trA x1) 2 x3) (trA x1 + 1) 0 60 0) 0 17 0 i j = c i j := fun i j q r => by
    rw [iu_ap, if_neg (by omega), ifill_ap, if_neg (by omega), iu_o (by omega), iu_o (by omega)]
  have hm : ∀ i j, ¬ (i = 0 ∧ j = 0) → i ≠ 1 → i ≠ 2 → i ≠ 3 → iu (ifill (iu (iu m 1 x1.toNat x2) 2 x1.toNat x3) 3 (60 * x1).toNat (60 * x1 + x3).toNat 0) 0 0 0 i j = m i j := fun i j q r s t => by
    rw [iu_ap, if_neg (by omega), ifill_ap, if_neg (by omega), iu_o (by omega), iu_o (by omega)]
  have hc : ∀ i j, ¬ (i = 0 ∧ j = 17) ∧ ¬ (2 ≤ i ∧ i ≤ 9) → iu (ifill (iu (iu c (trA x1) 1 x2) (trA x1) 2 x3) (trA x1 + 1) 0 60 0) 0 17 0 i j = c i j := fun i j q => hc i j (by omega) (by omega)
  have hm : ∀ i j, ¬ (i = 0 ∧ j = 0) ∧ i ≠ 1 ∧ i ≠ 2 ∧ i ≠ 3 → iu (ifill (iu (iu m 1 x1.toNat x2) 2 x1.toNat x3) 3 (60 * x1).toNat (60 * x1 + x3).toNat 0) 0 0 0 i j = m i j := fun i j q => hm i j (by omega) (by omega) (by omega) (by omega)
  refine ⟨a0, (by rw [iu_eq, iu_eq]), ?_, RS_f a3 (fun i j q => hc i j (by omega)) (fun i j q => hm i j (by omega)), RR_f a4 (fun j => hc _ _ (by omega)) (hm _ _ (by omega)) (hm _ _ (by omega)), RP_f a5 (fun i j q => hc i j (by omega)) (fun i j q => hm i j (by omega)), RSd_f a6 (fun i j q => hc i j (by omega)) (fun i j q => hm i j (by omega)), RB_f a7 (fun i j q => hc i j (by omega)), RO_f a8 (fun i j q => hc i j (by omega)), RK_f a9 (fun i j q => hc i j (by omega)) (fun i j q => hm i j (by omega)), RN_f a10 (fun i j q => hc i j (by omega)) (fun i j q => hm i j (by omega)), RF_f a11 (fun i j q => hc i j (by omega)) (fun i j q => hm i j (by omega)), RG_f a12 (fun i j q => hc i j (by omega)) (fun j q => hm _ _ (by omega)), RH_f a13 (fun i j q => hc i j (by omega)) (fun i j q => hm i j (by omega))⟩
  refine RT_u (s := x1) (by omega) a2 (fun i j p q r => ?_) (fun j n => ?_) (fun j n => ?_) ⟨?_, ?_, ?_, ?_, fun k k0 k1 => ?_⟩
  · rw [iu_ap, if_neg (by omega), ifill_ap, if_neg (by omega), iu_o (by omega), iu_o (by omega)]
  · rw [iu_o (by decide), iu_o (by decide), ifill_row (by decide), ifill_row (by decide), iu_o (by decide), iu_k n, iu_k n, iu_o (by decide)]; exact ⟨rfl, rfl⟩
  · rw [iu_o (by decide), ifill_ap, if_neg (by omega), iu_o (by decide), iu_o (by decide)]
  · rw [iu_o (by decide), ifill_row (by decide), iu_eq]; omega
  · rw [iu_o (by omega), ifill_row (by omega), iu_eq, iu_o (by decide), ifill_row (by decide), iu_eq]
  · rw [iu_o (by omega), ifill_row (by omega), iu_k (by decide), iu_eq, iu_o (by decide), ifill_row (by decide), iu_o (by decide), iu_eq]
  · rw [iu_o (by decide), ifill_row (by decide), iu_o (by decide), iu_eq]; omega
  · rw [iu_o (by decide), ifill_row (by decide), iu_eq] at k1
    rw [iu_o (by omega), ifill_ap, if_pos ⟨rfl, by omega, by omega⟩, iu_o (by decide), ifill_ap, if_pos ⟨rfl, by omega, by omega⟩]
theorem P_write {G G' : ZG} {c m : Nat → Nat → Int} {rv : Nat → Nat → Option Nat} {B : Int} {x1 x2 x3 : Int} (h : RL B c rv m) (hB : 0 ≤ B ∧ B ≤ 10000000) (hx1 : -2147483648 ≤ x1 ∧ x1 ≤ 2147483647) (hx2 : -2147483648 ≤ x2 ∧ x2 ≤ 2147483647) (hx3 : -9223372036854775808 ≤ x3 ∧ x3 ≤ 9223372036854775807) : Z G mX11_write 40 0 0 0 [vr (some 0), vi x1, vi x2, vl x3, vu, vu] [] (mkC c rv) (QC G' mX12_write [vr (some 0), vi x1, vi x2, vl x3, vu, vu] m (B + 1000)) := by
  obtain ⟨a0, a1, a2, a3, a4, a5, a6, a7, a8, a9, a10, a11, a12, a13⟩ := id h
  have hi : 0 ≤ x1 → x1 < 4 → m 2 x1.toNat ≤ 60 := fun p q => (tr_b a2 ⟨p, q⟩).2.2
  apply sX11_write_0 a0
  rw [wrong_eq a2]
  refine ⟨fun p q => by have := tr_b a2 (t := x1) (by omega); omega, fun w => ?_, fun w => ⟨_, rv, rfl, M_write hi (fun _ => QM_u h) (fun e => absurd e w)⟩⟩
  have g : 0 ≤ x1 ∧ x1 < 4 := by unfold wrongP at w; split at w <;> omega
  have ps : ¬ m 2 x1.toNat = -1 ∧ 0 ≤ x2 ∧ x2 < m 2 x1.toNat := by
    unfold wrongP at w
    rw [if_neg (by omega)] at w
    split at w
    · omega
    · split at w <;> omega
  have to := trA_c x1
  rcases a2 x1 g.1 g.2 with ⟨q1, q2, q3⟩ | ⟨q1, q2, q3, q4, q5⟩
  · omega
  refine ⟨by omega, by omega, _, rv, rfl, M_write hi (fun e => absurd w e) (fun _ => QM_i rfl (RL_B (B := B) ?_ (by omega)))⟩
  rw [q3]
  have hc : ∀ i j, ¬ (i = 0 ∧ j = 17) ∧ ¬ (2 ≤ i ∧ i ≤ 9) → iu (iu c (trA x1 + 1) x2.toNat (zcut x3 (m 1 x1.toNat))) 0 17 0 i j = c i j := fun i j q => by rw [iu_ap, if_neg (by omega), iu_o (by omega)]
  have hm : ∀ i j, ¬ (i = 0 ∧ j = 0) ∧ i ≠ 3 → iu (iu m 3 (60 * x1 + x2).toNat (zcut x3 (m 1 x1.toNat))) 0 0 0 i j = m i j := fun i j q => by rw [iu_ap, if_neg (by omega), iu_o (by omega)]
  refine ⟨a0, (by rw [iu_eq, iu_eq]), ?_, RS_f a3 (fun i j q => hc i j (by omega)) (fun i j q => hm i j (by omega)), RR_f a4 (fun j => hc _ _ (by omega)) (hm _ _ (by omega)) (hm _ _ (by omega)), RP_f a5 (fun i j q => hc i j (by omega)) (fun i j q => hm i j (by omega)), RSd_f a6 (fun i j q => hc i j (by omega)) (fun i j q => hm i j (by omega)), RB_f a7 (fun i j q => hc i j (by omega)), RO_f a8 (fun i j q => hc i j (by omega)), RK_f a9 (fun i j q => hc i j (by omega)) (fun i j q => hm i j (by omega)), RN_f a10 (fun i j q => hc i j (by omega)) (fun i j q => hm i j (by omega)), RF_f a11 (fun i j q => hc i j (by omega)) (fun i j q => hm i j (by omega)), RG_f a12 (fun i j q => hc i j (by omega)) (fun j q => hm _ _ (by omega)), RH_f a13 (fun i j q => hc i j (by omega)) (fun i j q => hm i j (by omega))⟩
  refine RT_u (s := x1) (by omega) a2 (fun i j p q r => ?_) (fun j n => ⟨hm _ _ (by omega), hm _ _ (by omega)⟩) (fun j n => ?_) ⟨?_, ?_, ?_, ?_, fun k k0 k1 => ?_⟩
  · rw [iu_o (by omega), iu_o (by omega)]
  · rw [iu_o (by decide), iu_k (by omega)]
  · rw [hm _ _ (by omega)]; exact q1
  · rw [hm _ _ (by omega), iu_o (by omega), iu_o (by omega)]; exact q2
  · rw [hm _ _ (by omega), iu_o (by omega), iu_o (by omega)]; exact q3
  · rw [hm _ _ (by omega)]; exact q4
  · rw [hm _ _ (by omega)] at k1
    rw [iu_o (by omega), iu_i, iu_o (by decide), iu_i]
    by_cases e : k = x2
    · subst e; rw [if_pos rfl, if_pos rfl]
    · rw [if_neg (by omega), if_neg (by omega)]; exact q5 k k0 k1
theorem QM_l {B x y : Int} {c m : Nat → Nat → Int} {rv : Nat → Nat → Option Nat} (e : y = x) (h : RL B c rv m) : QML (some (vl x)) c rv B (some (vl y)) (mkM m) := ⟨by rw [e]; rfl, _, rfl, h⟩
theorem P_read {G G' : ZG} {c m : Nat → Nat → Int} {rv : Nat → Nat → Option Nat} {B : Int} {x1 x2 : Int} (h : RL B c rv m) (hB : 0 ≤ B ∧ B ≤ 10000000) (hx1 : -2147483648 ≤ x1 ∧ x1 ≤ 2147483647) (hx2 : -2147483648 ≤ x2 ∧ x2 ≤ 2147483647) : Z G mX11_read 40 0 0 0 [vr (some 0), vi x1, vi x2, vu] [] (mkC c rv) (QCL G' mX12_read [vr (some 0), vi x1, vi x2] m (B + 1000)) := by
  obtain ⟨a0, a1, a2, a3, a4, a5, a6, a7, a8, a9, a10, a11, a12, a13⟩ := id h
  have hi : 0 ≤ x1 → x1 < 4 → m 2 x1.toNat ≤ 60 := fun p q => (tr_b a2 ⟨p, q⟩).2.2
  apply sX11_read_0 a0
  rw [wrong_eq a2]
  refine ⟨fun p q => by have := tr_b a2 (t := x1) (by omega); omega, fun w => ?_, fun w => ⟨_, rv, rfl, M_read hi (fun _ => QML_u h) (fun e => absurd e w)⟩⟩
  have g : 0 ≤ x1 ∧ x1 < 4 := by unfold wrongP at w; split at w <;> omega
  have ps : ¬ m 2 x1.toNat = -1 ∧ 0 ≤ x2 ∧ x2 < m 2 x1.toNat := by
    unfold wrongP at w
    rw [if_neg (by omega)] at w
    split at w
    · omega
    · split at w <;> omega
  have to := trA_c x1
  rcases a2 x1 g.1 g.2 with ⟨q1, q2, q3⟩ | ⟨q1, q2, q3, q4, q5⟩
  · omega
  refine ⟨by omega, by omega, _, rv, rfl, M_read hi (fun e => absurd w e) (fun _ => QM_l ?_ (RL_B (RL_u h 0) (by omega)))⟩
  rw [iu_o (by omega)]
  exact (q5 x2 (by omega) (by omega)).symm
theorem P_pour {G G' : ZG} {c m : Nat → Nat → Int} {rv : Nat → Nat → Option Nat} {B : Int} {x1 x2 x3 x4 x5 : Int} (h : RL B c rv m) (hB : 0 ≤ B ∧ B ≤ 10000000) (hx1 : -2147483648 ≤ x1 ∧ x1 ≤ 2147483647) (hx2 : -2147483648 ≤ x2 ∧ x2 ≤ 2147483647) (hx3 : -2147483648 ≤ x3 ∧ x3 ≤ 2147483647) (hx4 : -2147483648 ≤ x4 ∧ x4 ≤ 2147483647) (hx5 : -2147483648 ≤ x5 ∧ x5 ≤ 2147483647) : Z G mX11_pour 40 0 0 0 [vr (some 0), vi x1, vi x2, vi x3, vi x4, vi x5, vu, vu] [] (mkC c rv) (QC G' mX12_pour [vr (some 0), vi x1, vi x2, vi x3, vi x4, vi x5, vu, vu] m (B + 1000)) := by
  obtain ⟨a0, a1, a2, a3, a4, a5, a6, a7, a8, a9, a10, a11, a12, a13⟩ := id h
  have t1 : 0 ≤ x1 → x1 < 4 → -1 ≤ m 2 x1.toNat ∧ m 2 x1.toNat ≤ 60 := fun p q => (tr_b a2 ⟨p, q⟩).2
  have t3 : 0 ≤ x3 → x3 < 4 → -1 ≤ m 2 x3.toNat ∧ m 2 x3.toNat ≤ 60 := fun p q => (tr_b a2 ⟨p, q⟩).2
  have bad : ∀ w : Int, ¬ w = 0 → pourWhy m x1 x2 x3 x4 x5 = w → QC G' mX12_pour [vr (some 0), vi x1, vi x2, vi x3, vi x4, vi x5, vu, vu] m (B + 1000) (some (vi 0)) (mkC (iu c 0 17 w) rv) := fun w w0 e => ⟨_, rv, rfl, M_pour hx2.2 hx4.2 t1 t3 (fun _ => by rw [e]; exact QM_u h) (fun g => absurd (e.symm.trans g) w0)⟩
  have b1 : ¬ ((0 ≤ x1 ∧ x1 < 4) ∧ (0 ≤ x3 ∧ x3 < 4) ∧ 0 ≤ x2 ∧ 0 ≤ x4 ∧ 0 ≤ x5) → pourWhy m x1 x2 x3 x4 x5 = 1 := fun n => by unfold pourWhy; rw [if_pos n]
  apply sX11_pour_0 a0
  refine ⟨fun p => bad 1 (by decide) (b1 (by omega)), fun p => ⟨fun q => bad 1 (by decide) (b1 (by omega)), fun q => ⟨fun r => bad 1 (by decide) (b1 (by omega)), fun r => ⟨fun s => bad 1 (by decide) (b1 (by omega)), fun s => ⟨fun t => ⟨by omega, by omega, fun u => bad 2 (by decide) ?_, fun u => ⟨fun v => ⟨fun w => ⟨?_, fun y => bad 3 (by decide) ?_, fun y => ⟨?_, fun z => ⟨r, s, t, ?_, ?_, ?_⟩, fun z => bad 3 (by decide) ?_⟩⟩, fun w => bad 8 (by decide) ?_⟩, fun v => bad 2 (by decide) ?_⟩⟩, fun t => bad 1 (by decide) (b1 (by omega))⟩⟩⟩⟩⟩
  all_goals (
    have u1 := a2 x1 (by omega) (by omega)
    have u3 := a2 x3 (by omega) (by omega))
  · rcases u1 with ⟨e1, e2, e3⟩ | ⟨e1, e2, e3, e4, -⟩
    · unfold pourWhy; rw [if_neg (by omega), if_pos (by omega)]
    · omega
  · rcases u1 with ⟨e1, e2, e3⟩ | ⟨e1, e2, e3, e4, -⟩ <;> omega
  · rcases u1 with ⟨e1, e2, e3⟩ | ⟨e1, e2, e3, e4, -⟩
    · omega
    · rcases u3 with ⟨f1, f2, f3⟩ | ⟨f1, f2, f3, f4, -⟩
      · omega
      · unfold pourWhy; rw [if_neg (by omega), if_neg (by omega), if_neg (by omega), if_pos (by omega)]
  · rcases u3 with ⟨e1, e2, e3⟩ | ⟨e1, e2, e3, e4, -⟩ <;> omega
  · rcases u1 with ⟨e1, e2, e3⟩ | ⟨e1, e2, e3, e4, -⟩ <;> omega
  · rcases u3 with ⟨e1, e2, e3⟩ | ⟨e1, e2, e3, e4, -⟩ <;> omega
  · rcases u1 with ⟨e1, e2, e3⟩ | ⟨e1, e2, e3, e4, e5⟩
    · omega
    rcases u3 with ⟨f1, f2, f3⟩ | ⟨f1, f2, f3, f4, f5⟩
    · omega
    have ok : pourWhy m x1 x2 x3 x4 x5 = 0 := by unfold pourWhy; rw [if_neg (by omega), if_neg (by omega), if_neg (by omega), if_neg (by omega)]
    have to1 := trA_c x1
    have to3 := trA_c x3
    refine ⟨_, rv, rfl, M_pour hx2.2 hx4.2 t1 t3 (fun n => absurd ok n) (fun _ => QM_i rfl (RL_B (B := B) ?_ (by omega)))⟩
    have hc : ∀ i j, ¬ (i = 0 ∧ j = 17) ∧ i ≠ trA x3 + 1 → iu (icpy c (trA x1 + 1) x2.toNat (trA x3 + 1) x4.toNat x5.toNat) 0 17 0 i j = c i j := fun i j q => by rw [iu_ap, if_neg (by omega), icpy_ap, if_neg (by omega)]
    have hm : ∀ i j, ¬ (i = 0 ∧ j = 0) ∧ i ≠ 3 → iu (icpy m 3 (60 * x1 + x2).toNat 3 (60 * x3 + x4).toNat x5.toNat) 0 0 0 i j = m i j := fun i j q => by rw [iu_ap, if_neg (by omega), icpy_ap, if_neg (by omega)]
    refine ⟨a0, (by rw [iu_eq, iu_eq]), ?_, RS_f a3 (fun i j q => hc i j (by omega)) (fun i j q => hm i j (by omega)), RR_f a4 (fun j => hc _ _ (by omega)) (hm _ _ (by omega)) (hm _ _ (by omega)), RP_f a5 (fun i j q => hc i j (by omega)) (fun i j q => hm i j (by omega)), RSd_f a6 (fun i j q => hc i j (by omega)) (fun i j q => hm i j (by omega)), RB_f a7 (fun i j q => hc i j (by omega)), RO_f a8 (fun i j q => hc i j (by omega)), RK_f a9 (fun i j q => hc i j (by omega)) (fun i j q => hm i j (by omega)), RN_f a10 (fun i j q => hc i j (by omega)) (fun i j q => hm i j (by omega)), RF_f a11 (fun i j q => hc i j (by omega)) (fun i j q => hm i j (by omega)), RG_f a12 (fun i j q => hc i j (by omega)) (fun j q => hm _ _ (by omega)), RH_f a13 (fun i j q => hc i j (by omega)) (fun i j q => hm i j (by omega))⟩
    refine RT_u (s := x3) (by omega) a2 (fun i j p q r => hc i j (by omega)) (fun j n => ⟨hm _ _ (by omega), hm _ _ (by omega)⟩) (fun j n => ?_) ⟨?_, ?_, ?_, ?_, fun k k0 k1 => ?_⟩
    · rw [iu_o (by decide), icpy_ap, if_neg (by omega)]
    · rw [hm _ _ (by omega)]; exact f1
    · rw [hm _ _ (by omega), hc _ _ (by omega)]; exact f2
    · rw [hm _ _ (by omega), hc _ _ (by omega)]; exact f3
    · rw [hm _ _ (by omega)]; exact f4
    · rw [hm _ _ (by omega)] at k1
      rw [iu_o (by omega), iu_o (by decide), icpy_ap, icpy_ap]
      by_cases g : x4 ≤ k ∧ k < x4 + x5
      · rw [if_pos ⟨rfl, by omega, by omega⟩, if_pos ⟨rfl, by omega, by omega⟩]
        have := e5 (x2 + (k - x4)) (by omega) (by omega)
        rw [show x2.toNat + (k.toNat - x4.toNat) = (x2 + (k - x4)).toNat by omega, show (60 * x1 + x2).toNat + ((60 * x3 + k).toNat - (60 * x3 + x4).toNat) = (60 * x1 + (x2 + (k - x4))).toNat by omega]
        exact this
      · rw [if_neg (by omega), if_neg (by omega)]
        exact f5 k k0 k1
  · rcases u1 with ⟨e1, e2, e3⟩ | ⟨e1, e2, e3, e4, -⟩
    · omega
    · rcases u3 with ⟨f1, f2, f3⟩ | ⟨f1, f2, f3, f4, -⟩
      · omega
      · unfold pourWhy; rw [if_neg (by omega), if_neg (by omega), if_neg (by omega), if_pos (by omega)]
  · rcases u1 with ⟨e1, e2, e3⟩ | ⟨e1, e2, e3, e4, -⟩
    · omega
    · rcases u3 with ⟨f1, f2, f3⟩ | ⟨f1, f2, f3, f4, -⟩
      · omega
      · unfold pourWhy; rw [if_neg (by omega), if_neg (by omega), if_pos (by omega)]
  · rcases u3 with ⟨f1, f2, f3⟩ | ⟨f1, f2, f3, f4, -⟩
    · unfold pourWhy; rw [if_neg (by omega), if_pos (by omega)]
    · omega

