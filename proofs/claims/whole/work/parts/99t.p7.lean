/-! ===== the public methods: clicks and knocks ===== -/
theorem iu_rw {v : Nat → Nat → Int} {o j : Nat} {x : Int} : iu v o j x o = fun q => if q = j then x else v o q := funext fun q => iu_i
theorem P_click {G G' : ZG} {c m : Nat → Nat → Int} {rv : Nat → Nat → Option Nat} {B : Int} {x1 x2 : Int} (h : RL B c rv m) (hB : 0 ≤ B ∧ B ≤ 10000000) (hx1 : -2147483648 ≤ x1 ∧ x1 ≤ 2147483647) (hx2 : -2147483648 ≤ x2 ∧ x2 ≤ 2147483647) : Z G mX11_click 40 0 0 0 [vr (some 0), vi x1, vi x2] [] (mkC c rv) (QC G' mX12_click [vr (some 0), vi x1, vi x2] m (B + 1000)) := by
  obtain ⟨a0, a1, a2, a3, a4, a5, a6, a7, a8, a9, a10, a11, a12, a13⟩ := id h
  obtain ⟨k1, k2, ⟨k3, k3'⟩, k4⟩ := id a9
  have n16 := k1.1
  have cm := k1.2.2
  apply sX11_click_0 a0
  rw [k3, k3', k2]
  have bad : ¬ ((0 ≤ x1 ∧ x1 < 100) ∧ 0 ≤ x2 ∧ x2 < 8) → QC G' mX12_click [vr (some 0), vi x1, vi x2] m (B + 1000) (some (vi 0)) (mkC (iu c 0 17 1) rv) := fun n => ⟨_, rv, rfl, sX12_click_0 ⟨fun _ => QM_u h, fun _ => ⟨fun _ => QM_u h, fun _ => ⟨fun _ => QM_u h, fun _ => ⟨fun _ => by omega, fun _ => QM_u h⟩⟩⟩⟩⟩
  refine ⟨fun p => bad (by omega), fun p => ⟨fun q => ⟨fun r => ⟨n16, fun s => ⟨by omega, _, rv, rfl, ?_⟩, fun s => ⟨_, rv, rfl, ?_⟩⟩, fun r => ⟨_, rv, rfl, ?_⟩⟩, fun q => bad (by omega)⟩⟩
  · have cz := (cm x1 x2 (by omega) (by omega)).mpr s
    refine sX12_click_0 ⟨fun _ => by omega, fun _ => ⟨fun _ => by omega, fun _ => ⟨fun _ => by omega, fun _ => ⟨fun _ => ⟨fun _ => ⟨by omega, by omega, by omega, fun _ => ⟨by omega, by omega, by omega, by omega, by omega, by omega, QM_i rfl (RL_B (B := B) ?_ (by omega))⟩, fun e => absurd cz e⟩, fun e => by omega⟩, fun _ => by omega⟩⟩⟩⟩
    have ad := ckM_add (t := x1) (p := x2) (x := 0) k1 (by omega) (by omega) (by omega)
    have hc : ∀ i j, ¬ (i = 0 ∧ j = 17) ∧ i ≠ 33 ∧ i ≠ 34 ∧ ¬ (i = 32 ∧ j = 3) → iu (iu (iu (iu c 33 (m 0 30).toNat x1) 34 (m 0 30).toNat x2) 32 3 (m 0 30 + 1)) 0 17 0 i j = c i j := fun i j q => by rw [iu_ap, if_neg (by omega), iu_ap, if_neg (by omega), iu_o (by omega), iu_o (by omega)]
    have hm : ∀ i j, ¬ (i = 0 ∧ (j = 0 ∨ j = 30)) ∧ i ≠ 20 ∧ i ≠ 21 ∧ i ≠ 22 → iu (iu (iu (iu (iu m 20 (8 * x1 + x2).toNat 1) 21 (m 0 30).toNat x1) 22 (m 0 30).toNat x2) 0 30 (m 0 30 + 1)) 0 0 0 i j = m i j := fun i j q => by rw [iu_ap, if_neg (by omega), iu_ap, if_neg (by omega), iu_o (by omega), iu_o (by omega), iu_o (by omega)]
    have c33 : iu (iu (iu (iu c 33 (m 0 30).toNat x1) 34 (m 0 30).toNat x2) 32 3 (m 0 30 + 1)) 0 17 0 33 = fun q => if q = (m 0 30).toNat then x1 else m 21 q := by rw [iu_row (by decide), iu_row (by decide), iu_row (by decide), iu_rw, k3]
    have c34 : iu (iu (iu (iu c 33 (m 0 30).toNat x1) 34 (m 0 30).toNat x2) 32 3 (m 0 30 + 1)) 0 17 0 34 = fun q => if q = (m 0 30).toNat then x2 else m 22 q := by rw [iu_row (by decide), iu_row (by decide), iu_rw, iu_row (by decide), k3']
    have c3 : iu (iu (iu (iu c 33 (m 0 30).toNat x1) 34 (m 0 30).toNat x2) 32 3 (m 0 30 + 1)) 0 17 0 32 3 = m 0 30 + 1 := by rw [iu_o (by decide), iu_eq]
    have m21 : iu (iu (iu (iu (iu m 20 (8 * x1 + x2).toNat 1) 21 (m 0 30).toNat x1) 22 (m 0 30).toNat x2) 0 30 (m 0 30 + 1)) 0 0 0 21 = fun q => if q = (m 0 30).toNat then x1 else m 21 q := by rw [iu_row (by decide), iu_row (by decide), iu_row (by decide), iu_rw, iu_row (by decide)]
    have m22 : iu (iu (iu (iu (iu m 20 (8 * x1 + x2).toNat 1) 21 (m 0 30).toNat x1) 22 (m 0 30).toNat x2) 0 30 (m 0 30 + 1)) 0 0 0 22 = fun q => if q = (m 0 30).toNat then x2 else m 22 q := by rw [iu_row (by decide), iu_row (by decide), iu_rw, iu_row (by decide), iu_row (by decide)]
    have m30 : iu (iu (iu (iu (iu m 20 (8 * x1 + x2).toNat 1) 21 (m 0 30).toNat x1) 22 (m 0 30).toNat x2) 0 30 (m 0 30 + 1)) 0 0 0 0 30 = m 0 30 + 1 := by rw [iu_k (by decide), iu_eq]
    have u0 : iu (iu (iu (iu c 33 (m 0 30).toNat x1) 34 (m 0 30).toNat x2) 32 3 (m 0 30 + 1)) 0 17 0 0 17 = iu (iu (iu (iu (iu m 20 (8 * x1 + x2).toNat 1) 21 (m 0 30).toNat x1) 22 (m 0 30).toNat x2) 0 30 (m 0 30 + 1)) 0 0 0 0 0 := by rw [iu_eq, iu_eq]
    generalize iu (iu (iu (iu c 33 (m 0 30).toNat x1) 34 (m 0 30).toNat x2) 32 3 (m 0 30 + 1)) 0 17 0 = c' at *
    generalize iu (iu (iu (iu (iu m 20 (8 * x1 + x2).toNat 1) 21 (m 0 30).toNat x1) 22 (m 0 30).toNat x2) 0 30 (m 0 30 + 1)) 0 0 0 = m' at *
    refine ⟨a0, ?_, RT_f a2 (fun i j q => hc i j (by omega)) (fun i j q => hm i j (by omega)), RS_f a3 (fun i j q => hc i j (by omega)) (fun i j q => hm i j (by omega)), RR_f a4 (fun j => hc _ _ (by omega)) (hm _ _ (by omega)) (hm _ _ (by omega)), RP_f a5 (fun i j q => hc i j (by omega)) (fun i j q => hm i j (by omega)), RSd_f a6 (fun i j q => hc i j (by omega)) (fun i j q => hm i j (by omega)), RB_f a7 (fun i j q => hc i j (by omega)), RO_f a8 (fun i j q => hc i j (by omega)), ?_, RN_f a10 (fun i j q => hc i j (by omega)) (fun i j q => hm i j (by omega)), RF_f a11 (fun i j q => hc i j (by omega)) (fun i j q => hm i j (by omega)), RG_f a12 (fun i j q => hc i j (by omega)) (fun j q => hm _ _ (by omega)), RH_f a13 (fun i j q => hc i j (by omega)) (fun i j q => hm i j (by omega))⟩
    · exact u0
    · refine ⟨ad, by omega, ⟨by rw [c33, m21], by rw [c34, m22]⟩, ?_⟩
      rw [c33, c34, c3]
      rw [k3, k3', k2] at k4
      have no := (ffirst_none (P := fun k : Int => m 21 k.toNat = x1 ∧ m 22 k.toNat = x2) (m 0 30).toNat 0 (by omega)).mp s
      refine ⟨by omega, fun k k0 k1 => ?_, fun i j i0 i1 j0 j1 e f => ?_⟩
      · dsimp only
        by_cases g : k = m 0 30
        · rw [if_pos (by omega), if_pos (by omega)]; omega
        · rw [if_neg (by omega), if_neg (by omega)]; exact k4.2.1 k k0 (by omega)
      · dsimp only at e f
        by_cases gi : i = m 0 30
        · by_cases gj : j = m 0 30
          · omega
          · rw [if_pos (by omega), if_neg (by omega)] at e f
            exact absurd ⟨e.symm, f.symm⟩ (no j j0 (by omega))
        · by_cases gj : j = m 0 30
          · rw [if_neg (by omega), if_pos (by omega)] at e f
            exact absurd ⟨e, f⟩ (no i i0 (by omega))
          · rw [if_neg (by omega), if_neg (by omega)] at e f
            exact k4.2.2 i j i0 (by omega) j0 (by omega) e f
  · have cz : ¬ m 20 (8 * x1 + x2).toNat = 0 := fun e => s ((cm x1 x2 (by omega) (by omega)).mp e)
    exact sX12_click_0 ⟨fun _ => by omega, fun _ => ⟨fun _ => by omega, fun _ => ⟨fun _ => by omega, fun _ => ⟨fun _ => ⟨fun _ => ⟨by omega, by omega, by omega, fun e => absurd e cz, fun _ => QM_u h⟩, fun e => by omega⟩, fun _ => by omega⟩⟩⟩⟩
  · exact sX12_click_0 ⟨fun _ => by omega, fun _ => ⟨fun _ => by omega, fun _ => ⟨fun _ => by omega, fun _ => ⟨fun _ => ⟨fun e => by omega, fun _ => QM_u h⟩, fun _ => by omega⟩⟩⟩⟩
theorem P_clean {G G' : ZG} {c m : Nat → Nat → Int} {rv : Nat → Nat → Option Nat} {B : Int} (h : RL B c rv m) (hB : 0 ≤ B ∧ B ≤ 10000000) : Z G mX11_clean 40 0 0 0 [vr (some 0)] [] (mkC c rv) (QC G' mX12_clean [vr (some 0), vu] m (B + 1000)) := by
  obtain ⟨a0, a1, a2, a3, a4, a5, a6, a7, a8, a9, a10, a11, a12, a13⟩ := id h
  obtain ⟨k1, k2, ⟨k3, k3'⟩, k4⟩ := id a9
  apply sX11_clean_0 a0
  refine ⟨_, rv, rfl, M_cleanL k1 (fun v fv zv => QM_i rfl (RL_B (B := B) ?_ (by omega)))⟩
  have hc : ∀ i j, ¬ (i = 0 ∧ j = 17) ∧ ¬ (i = 32 ∧ j = 3) → iu (iu c 32 3 0) 0 17 0 i j = c i j := fun i j q => by rw [iu_ap, if_neg (by omega), iu_ap, if_neg (by omega)]
  have hm : ∀ i j, ¬ (i = 0 ∧ (j = 0 ∨ j = 30)) ∧ i ≠ 20 → iu (iu v 0 30 0) 0 0 0 i j = m i j := fun i j q => by rw [iu_ap, if_neg (by omega), iu_ap, if_neg (by omega), fv i (by omega)]
  have c3 : iu (iu c 32 3 0) 0 17 0 32 3 = 0 := by rw [iu_o (by decide), iu_eq]
  have m30 : iu (iu v 0 30 0) 0 0 0 0 30 = 0 := by rw [iu_k (by decide), iu_eq]
  have m20 : iu (iu v 0 30 0) 0 0 0 20 = v 20 := by rw [iu_row (by decide), iu_row (by decide)]
  have u0 : iu (iu c 32 3 0) 0 17 0 0 17 = iu (iu v 0 30 0) 0 0 0 0 0 := by rw [iu_eq, iu_eq]
  generalize iu (iu c 32 3 0) 0 17 0 = c' at *
  generalize iu (iu v 0 30 0) 0 0 0 = m' at *
  refine ⟨a0, ?_, RT_f a2 (fun i j q => hc i j (by omega)) (fun i j q => hm i j (by omega)), RS_f a3 (fun i j q => hc i j (by omega)) (fun i j q => hm i j (by omega)), RR_f a4 (fun j => hc _ _ (by omega)) (hm _ _ (by omega)) (hm _ _ (by omega)), RP_f a5 (fun i j q => hc i j (by omega)) (fun i j q => hm i j (by omega)), RSd_f a6 (fun i j q => hc i j (by omega)) (fun i j q => hm i j (by omega)), RB_f a7 (fun i j q => hc i j (by omega)), RO_f a8 (fun i j q => hc i j (by omega)), ?_, RN_f a10 (fun i j q => hc i j (by omega)) (fun i j q => hm i j (by omega)), RF_f a11 (fun i j q => hc i j (by omega)) (fun i j q => hm i j (by omega)), RG_f a12 (fun i j q => hc i j (by omega)) (fun j q => hm _ _ (by omega)), RH_f a13 (fun i j q => hc i j (by omega)) (fun i j q => hm i j (by omega))⟩
  · exact u0
  · refine ⟨⟨by omega, fun k k0 k1 => by omega, fun t p ht hp => ?_⟩, by omega, ⟨?_, ?_⟩, ⟨by omega, fun k k0 k1 => by omega, fun i j i0 i1 => by omega⟩⟩
    · rw [m20, m30, zv t p ht hp]
      exact ⟨fun _ => rfl, fun _ => rfl⟩
    · rw [show c' 33 = c 33 from funext fun j => hc _ _ (by omega), k3]; exact funext fun j => (hm _ _ (by omega)).symm
    · rw [show c' 34 = c 34 from funext fun j => hc _ _ (by omega), k3']; exact funext fun j => (hm _ _ (by omega)).symm
theorem lg_cS {B : Int} {c v m : Nat → Nat → Int} {rv : Nat → Nat → Option Nat} (h : RL B c rv m) (f : lgF c v) : RL B v rv m := RL_f h (fun i j q => by unfold cS at q; exact f i j (by omega)) (fun _ _ _ => rfl) (by rw [f 0 17 (by omega)]; exact h.2.1)
theorem ln_mS {m w : Nat → Nat → Int} {b : Int × Int} (h : lineM m w b) : ∀ i j, ¬ mS i j → w i j = m i j := fun i j q => by unfold mS at q; exact h.1 i j (by omega)
theorem P_longest {G G' : ZG} {c m : Nat → Nat → Int} {rv : Nat → Nat → Option Nat} {B : Int} (h : RL B c rv m) (hB : 0 ≤ B ∧ B ≤ 10000000) : Z G mX11_longest 40 0 0 0 [vr (some 0)] [] (mkC c rv) (QC G' mX12_longest [vr (some 0)] m (B + 1000)) := by
  obtain ⟨k1, k2, ⟨k3, k3'⟩, k4⟩ := id h.2.2.2.2.2.2.2.2.2.1
  have n16 := k1.1
  apply sX11_longest_0 h.1
  refine ⟨fun n => ⟨k4, by omega, fun v f => ⟨_, rv, rfl, ?_⟩⟩, fun n => ⟨_, rv, rfl, sX12_longest_0 ⟨fun e => absurd (by omega) e, fun _ => QM_u h⟩⟩⟩
  rw [f.2.1, k3, k3', k2]
  exact sX12_longest_0 ⟨fun _ => ⟨k1, fun w hw => QM_v (lg_cS h f.1) (ln_mS hw)⟩, fun e => by omega⟩
theorem flb_pos {f g : Nat → Int} {n : Int} (h : ckU f g n) (n0 : 0 < n) : 0 ≤ (flb (lnQ f g n) 2400).2 := by
  have r := flb_r (F := lnQ f g n) 2400
  have c0 := h.2.1 0 (by omega) n0
  rw [show (0 : Int).toNat = 0 from rfl] at c0
  rcases r.2.2 with ⟨e1, e2⟩ | e
  · exfalso
    have q := r.2.1 (24 * f 0 + 3 * g 0 + 1) (by omega) (by omega)
    rw [e2] at q
    unfold lnQ at q
    rw [show (24 * f 0 + 3 * g 0 + 1) / 24 = f 0 by omega, show (24 * f 0 + 3 * g 0 + 1) / 3 % 8 = g 0 by omega, show (24 * f 0 + 3 * g 0 + 1) % 3 - 1 = 0 by omega] at q
    unfold lnF at q
    have z0 : ckA f g n (f 0 + 0) ((g 0 + 0 * 0) % 8) ≠ -1 := by
      rw [show f 0 + 0 = f 0 by omega, show (g 0 + 0 * 0) % 8 = g 0 by omega]
      intro z
      exact (ffirst_none (P := fun k : Int => f k.toNat = f 0 ∧ g k.toNat = g 0) n.toNat 0 (by omega)).mp z 0 (by omega) (by omega) ⟨rfl, rfl⟩
    have z100 : ckA f g n (f 0 + 100) ((g 0 + 0 * 100) % 8) = -1 := by
      refine (ffirst_none (P := fun k : Int => f k.toNat = f 0 + 100 ∧ g k.toNat = (g 0 + 0 * 100) % 8) n.toNat 0 (by omega)).mpr (fun k k0 k1 z => ?_)
      have := (h.2.1 k k0 (by omega)).1
      omega
    rcases ffirst_r (P := fun k : Int => ckA f g n (f 0 + k) ((g 0 + 0 * k) % 8) = -1) 101 0 (by omega) with y | y
    · exact (ffirst_none (P := fun k : Int => ckA f g n (f 0 + k) ((g 0 + 0 * k) % 8) = -1) 101 0 (by omega)).mp y 100 (by omega) (by omega) z100
    · obtain ⟨y1, y2, y3⟩ := y
      have : ffirst (fun k : Int => ckA f g n (f 0 + k) ((g 0 + 0 * k) % 8) = -1) 0 101 = 0 := by omega
      rw [this] at y3
      exact z0 y3
  · exact e.1.1
theorem P_line {G G' : ZG} {c m : Nat → Nat → Int} {rv : Nat → Nat → Option Nat} {B : Int} {x1 : Int} (h : RL B c rv m) (hB : 0 ≤ B ∧ B ≤ 10000000) (hx1 : -2147483648 ≤ x1 ∧ x1 ≤ 2147483647) : Z G mX11_line 40 0 0 0 [vr (some 0), vi x1] [] (mkC c rv) (QC G' mX12_line [vr (some 0), vi x1, vu] m (B + 1000)) := by
  obtain ⟨k1, k2, ⟨k3, k3'⟩, k4⟩ := id h.2.2.2.2.2.2.2.2.2.1
  have n16 := k1.1
  apply sX11_line_0 h.1
  refine ⟨fun p => ⟨fun n => ⟨k4, by omega, fun v f => ?_⟩, fun n => ⟨_, rv, rfl, ?_⟩⟩, fun p => ⟨_, rv, rfl, ?_⟩⟩
  · obtain ⟨f1, f2, f3, f4, f5⟩ := f
    have r := lg_cS h f1
    have ps := flb_pos k4 (by omega)
    rw [k3, k3', k2] at f3 ps
    refine ⟨fun x => ⟨fun y => ⟨_, rv, rfl, ?_⟩, fun y => ⟨_, rv, rfl, ?_⟩⟩, fun x => ⟨_, rv, rfl, ?_⟩⟩
    · refine sX12_line_0 ⟨fun e => by omega, fun _ => ⟨fun _ => ⟨fun _ => ⟨k1, fun w hw => ⟨fun _ => ⟨fun _ => ?_, fun e => absurd e y⟩, fun e => absurd e x⟩⟩, fun e => by omega⟩, fun e => by omega⟩⟩
      rw [(hw.2 ps).2.2, f3, show (24 * v 32 5 + 3 * v 32 6 + (v 32 7 + 1)) % 3 - 1 = v 32 7 by omega]
      exact QM_v r (ln_mS hw)
    · refine sX12_line_0 ⟨fun e => by omega, fun _ => ⟨fun _ => ⟨fun _ => ⟨k1, fun w hw => ⟨fun _ => ⟨fun e => absurd y e, fun _ => ?_⟩, fun e => absurd e x⟩⟩, fun e => by omega⟩, fun e => by omega⟩⟩
      rw [(hw.2 ps).2.1, f3, show (24 * v 32 5 + 3 * v 32 6 + (v 32 7 + 1)) / 3 % 8 = v 32 6 by omega]
      exact QM_v r (ln_mS hw)
    · refine sX12_line_0 ⟨fun e => by omega, fun _ => ⟨fun _ => ⟨fun _ => ⟨k1, fun w hw => ⟨fun e => absurd x e, fun _ => ?_⟩⟩, fun e => by omega⟩, fun e => by omega⟩⟩
      rw [(hw.2 ps).1, f3, show (24 * v 32 5 + 3 * v 32 6 + (v 32 7 + 1)) / 24 = v 32 5 by omega]
      exact QM_v r (ln_mS hw)
  · exact sX12_line_0 ⟨fun e => by omega, fun _ => ⟨fun _ => ⟨fun e => absurd (by omega) e, fun _ => QM_u h⟩, fun e => by omega⟩⟩
  · exact sX12_line_0 ⟨fun _ => QM_u h, fun _ => ⟨fun e => by omega, fun _ => QM_u h⟩⟩
theorem P_cover {G G' : ZG} {c m : Nat → Nat → Int} {rv : Nat → Nat → Option Nat} {B : Int} (h : RL B c rv m) (hB : 0 ≤ B ∧ B ≤ 10000000) : Z G mX11_cover 40 0 0 0 [vr (some 0)] [] (mkC c rv) (QC G' mX12_cover [vr (some 0), vu, vu, vu, vu] m (B + 1000)) := by
  obtain ⟨k1, k2, ⟨k3, k3'⟩, k4⟩ := id h.2.2.2.2.2.2.2.2.2.1
  apply sX11_cover_0 h.1
  refine ⟨k4, fun v f => ⟨_, rv, rfl, ?_⟩⟩
  have r : RL B v rv m := RL_f h (fun i j q => by unfold cS at q; rw [f i (by omega)]) (fun _ _ _ => rfl) (by rw [f 0 (by decide)]; exact h.2.1)
  rw [k3, k3', k2] at k4 ⊢
  exact M_coverL k1 k4 (fun w hw => QM_v r (fun i j q => by unfold mS at q; rw [hw i (by omega) (by omega)]))
theorem kn_eq {c m : Nat → Nat → Int} (h : RN c m) (t : Int) : knI (c 37) (c 36 3) t = -1 ↔ knI (m 25) (m 0 37) t = -1 := by
  rw [← knv_n h.1.1, ← knv_n h.2.2.1, h.2.2.2]
set_option maxRecDepth 20000 in
theorem sX12_knock_51 {G : ZG} {d : Nat} {iv : Nat → Nat → Int} {K : Option AV → AH → Prop} {x1 x2 y0 : Int} (h : (y0 = (-1) → ((0 ≤ (iv 0 37) ∧ (iv 0 37) < (16 : Nat)) ∧ ((0 ≤ (iv 0 37) ∧ (iv 0 37) < (16 : Nat)) ∧ ((-2147483648 ≤ ((iv 0 37) + 1) ∧ ((iv 0 37) + 1) ≤ 2147483647) ∧ (K (some (vi 1)) (mkM (iu (iu (iu (iu iv 25 ((iv 0 37).toNat) x1) 26 ((iv 0 37).toNat) x2) 0 37 ((iv 0 37) + 1)) 0 0 0))))))) ∧ (¬ y0 = (-1) → (K (some (vi 0)) (mkM (iu iv 0 0 7))))) : Z G mX12_knock (d + 1) 0 0 51 [vr (some 0), vi x1, vi x2] [vi y0] (mkM iv) K := (Z_iconst (dX12_knock 26) ⟨by decide, by decide⟩ (Z_icmp_eq (dX12_knock 27) rfl (fun c1 => (Z_aload_n (dX12_knock 32) rfl (Z_gRM (r := (some 25)) (dX12_knock 33) lk_X12_95 sM0 rfl rfl (Z_aload_n (dX12_knock 34) rfl (Z_gIM (x := (iv 0 37)) (dX12_knock 35) lk_X12_322 sM0 (Or.inl rfl) rfl (Z_iload_n (dX12_knock 36) rfl (Z_iastM (dX12_knock 37) sM25 (h.1 c1).1 (Z_aload_n (dX12_knock 38) rfl (Z_gRM (r := (some 26)) (dX12_knock 39) lk_X12_98 sM0 rfl rfl (Z_aload_n (dX12_knock 40) rfl (Z_gIM (x := (iv 0 37)) (dX12_knock 41) lk_X12_322 sM0 (Or.inl rfl) ((iu_o (by decide)).trans rfl) (Z_iload_n (dX12_knock 42) rfl (Z_iastM (dX12_knock 43) sM26 (h.1 c1).2.1 (Z_aload_n (dX12_knock 44) rfl (Z_dup (dX12_knock 45) rfl (Z_gIM (x := (iv 0 37)) (dX12_knock 46) lk_X12_322 sM0 (Or.inl rfl) ((iu_o (by decide)).trans ((iu_o (by decide)).trans rfl)) (Z_iconst (dX12_knock 47) ⟨by decide, by decide⟩ (Z_iadd (dX12_knock 48) (h.1 c1).2.2.1 (Z_putIM (dX12_knock 49) lk_X12_322 sM0 rfl (Or.inl rfl) (Z_aload_n (dX12_knock 50) rfl (Z_iconst (dX12_knock 51) ⟨by decide, by decide⟩ (Z_cVM (As := [vi 0]) (S := []) (dX12_knock 52) lk_X12_205 sM0 (by decide) rfl rfl (Nat.le_of_ble_eq_true rfl) (Nat.le_of_ble_eq_true rfl) (M_isT  ((Z_zreturn (dX12_knock 53) rfl (Or.inr rfl) (h.1 c1).2.2.2))))))))))))))))))))))))) (fun c2 => (Z_aload_n (dX12_knock 28) rfl (Z_bipush (dX12_knock 29) ⟨by decide, by decide⟩ (Z_cVM (As := [vi 7]) (S := []) (dX12_knock 30) lk_X12_205 sM0 (by decide) rfl rfl (Nat.le_of_ble_eq_true rfl) (Nat.le_of_ble_eq_true rfl) (M_isF (by decide) ((Z_zreturn (dX12_knock 31) rfl (Or.inl rfl) (h.2 c2))))))))))
theorem P_knock {G G' : ZG} {c m : Nat → Nat → Int} {rv : Nat → Nat → Option Nat} {B : Int} {x1 x2 : Int} (h : RL B c rv m) (hB : 0 ≤ B ∧ B ≤ 10000000) (hx1 : -2147483648 ≤ x1 ∧ x1 ≤ 2147483647) (hx2 : -2147483648 ≤ x2 ∧ x2 ≤ 2147483647) : Z G mX11_knock 40 0 0 0 [vr (some 0), vi x1, vi x2] [] (mkC c rv) (QC G' mX12_knock [vr (some 0), vi x1, vi x2] m (B + 1000)) := by
  obtain ⟨a0, a1, a2, a3, a4, a5, a6, a7, a8, a9, a10, a11, a12, a13⟩ := id h
  obtain ⟨n1, n2, n3, n4⟩ := id a10
  have n16 := n3.1
  have ke := kn_eq a10 x1
  apply sX11_knock_0 a0
  have bad : ¬ ((0 ≤ x1 ∧ x1 ≤ 10000) ∧ -400 ≤ x2 ∧ x2 ≤ 400) → QC G' mX12_knock [vr (some 0), vi x1, vi x2] m (B + 1000) (some (vi 0)) (mkC (iu c 0 17 1) rv) := fun n => ⟨_, rv, rfl, sX12_knock_0 ⟨fun _ => QM_u h, fun _ => ⟨fun _ => QM_u h, fun _ => ⟨fun _ => QM_u h, fun _ => ⟨fun _ => by omega, fun _ => QM_u h⟩⟩⟩⟩⟩
  refine ⟨fun p => bad (by omega), fun p => ⟨fun q => ⟨fun r => ⟨by omega, fun s => ?_, fun s => ⟨_, rv, rfl, ?_⟩⟩, fun r => ⟨_, rv, rfl, ?_⟩⟩, fun q => bad (by omega)⟩⟩
  · have s' : knI (c 37) (c 36 3) x1 = -1 := by omega
    refine ⟨n1, r, p, q, s', fun v ka => ⟨_, rv, rfl, ?_⟩⟩
    refine sX12_knock_0 ⟨fun _ => by omega, fun _ => ⟨fun _ => by omega, fun _ => ⟨fun _ => by omega, fun _ => ⟨fun _ => ⟨fun _ => M_find n16 ?_, fun e => by omega⟩, fun _ => by omega⟩⟩⟩⟩
    rw [ke.mp s']
    apply sX12_knock_51
    refine ⟨fun _ => ⟨by omega, by omega, by omega, QM_i rfl (RL_B (B := B) ?_ (by omega))⟩, fun e => absurd rfl e⟩
    obtain ⟨f1, f2, f3, f4⟩ := ka
    have hc : ∀ i j, ¬ (i = 0 ∧ j = 17) ∧ i ≠ 37 ∧ i ≠ 38 ∧ ¬ (i = 36 ∧ j = 3) → iu v 0 17 0 i j = c i j := fun i j q => by rw [iu_ap, if_neg (by omega)]; exact f1 i j (by omega) (by omega) (by omega)
    have hm : ∀ i j, ¬ (i = 0 ∧ (j = 0 ∨ j = 37)) ∧ i ≠ 25 ∧ i ≠ 26 → iu (iu (iu (iu m 25 (m 0 37).toNat x1) 26 (m 0 37).toNat x2) 0 37 (m 0 37 + 1)) 0 0 0 i j = m i j := fun i j q => by rw [iu_ap, if_neg (by omega), iu_ap, if_neg (by omega), iu_o (by omega), iu_o (by omega)]
    have cv : ∀ i, i ≠ 0 → iu v 0 17 0 i = v i := fun i q => iu_row q
    have m25 : iu (iu (iu (iu m 25 (m 0 37).toNat x1) 26 (m 0 37).toNat x2) 0 37 (m 0 37 + 1)) 0 0 0 25 = fun q => if q = (m 0 37).toNat then x1 else m 25 q := by rw [iu_row (by decide), iu_row (by decide), iu_row (by decide), iu_rw]
    have m26 : iu (iu (iu (iu m 25 (m 0 37).toNat x1) 26 (m 0 37).toNat x2) 0 37 (m 0 37 + 1)) 0 0 0 26 = fun q => if q = (m 0 37).toNat then x2 else m 26 q := by rw [iu_row (by decide), iu_row (by decide), iu_rw, iu_row (by decide)]
    have m37 : iu (iu (iu (iu m 25 (m 0 37).toNat x1) 26 (m 0 37).toNat x2) 0 37 (m 0 37 + 1)) 0 0 0 0 37 = m 0 37 + 1 := by rw [iu_k (by decide), iu_eq]
    have u0 : iu v 0 17 0 0 17 = iu (iu (iu (iu m 25 (m 0 37).toNat x1) 26 (m 0 37).toNat x2) 0 37 (m 0 37 + 1)) 0 0 0 0 0 := by rw [iu_eq, iu_eq]
    generalize iu v 0 17 0 = c' at *
    generalize iu (iu (iu (iu m 25 (m 0 37).toNat x1) 26 (m 0 37).toNat x2) 0 37 (m 0 37 + 1)) 0 0 0 = m' at *
    refine ⟨a0, ?_, RT_f a2 (fun i j q => hc i j (by omega)) (fun i j q => hm i j (by omega)), RS_f a3 (fun i j q => hc i j (by omega)) (fun i j q => hm i j (by omega)), RR_f a4 (fun j => hc _ _ (by omega)) (hm _ _ (by omega)) (hm _ _ (by omega)), RP_f a5 (fun i j q => hc i j (by omega)) (fun i j q => hm i j (by omega)), RSd_f a6 (fun i j q => hc i j (by omega)) (fun i j q => hm i j (by omega)), RB_f a7 (fun i j q => hc i j (by omega)), RO_f a8 (fun i j q => hc i j (by omega)), RK_f a9 (fun i j q => hc i j (by omega)) (fun i j q => hm i j (by omega)), ?_, RF_f a11 (fun i j q => hc i j (by omega)) (fun i j q => hm i j (by omega)), RG_f a12 (fun i j q => hc i j (by omega)) (fun j q => hm _ _ (by omega)), RH_f a13 (fun i j q => hc i j (by omega)) (fun i j q => hm i j (by omega))⟩
    · exact u0
    · have e37 := cv 37 (by decide)
      have e38 := cv 38 (by decide)
      have e36 := cv 36 (by decide)
      refine ⟨?_, by rw [e36, f2]; omega, ⟨by omega, fun k k0 k1 => ?_⟩, fun x => ?_⟩
      · unfold nOk at *
        rw [e37, e38, e36]; exact f3
      · rw [m26]
        dsimp only
        by_cases g : k = m 0 37
        · rw [if_pos (by omega)]; exact q
        · rw [if_neg (by omega)]; exact n3.2 k k0 (by omega)
      · rw [e37, e38, e36, f4, m25, m26, m37, n4]
        exact (knv_snoc (f := m 25) (g := m 26) n16.1 (ke.mp s') (fun i i0 i1 => ⟨if_neg (by omega), if_neg (by omega)⟩) (if_pos rfl) (if_pos rfl) x).symm
  · refine sX12_knock_0 ⟨fun _ => by omega, fun _ => ⟨fun _ => by omega, fun _ => ⟨fun _ => by omega, fun _ => ⟨fun _ => ⟨fun _ => M_find n16 ?_, fun e => by omega⟩, fun _ => by omega⟩⟩⟩⟩
    apply sX12_knock_51
    exact ⟨fun e => absurd (ke.mpr e) s, fun _ => QM_u h⟩
  · exact sX12_knock_0 ⟨fun _ => by omega, fun _ => ⟨fun _ => by omega, fun _ => ⟨fun _ => by omega, fun _ => ⟨fun _ => ⟨fun e => by omega, fun _ => QM_u h⟩, fun _ => by omega⟩⟩⟩⟩
theorem P_still {G G' : ZG} {c m : Nat → Nat → Int} {rv : Nat → Nat → Option Nat} {B : Int} (h : RL B c rv m) (hB : 0 ≤ B ∧ B ≤ 10000000) : Z G mX11_still 40 0 0 0 [vr (some 0)] [] (mkC c rv) (QC G' mX12_still [vr (some 0)] m (B + 1000)) := by
  obtain ⟨a0, a1, a2, a3, a4, a5, a6, a7, a8, a9, a10, a11, a12, a13⟩ := id h
  apply sX11_still_0 a0
  refine ⟨_, rv, rfl, sX12_still_0 (QM_i rfl (RL_B (B := B) ?_ (by omega)))⟩
  have hc : ∀ i j, ¬ (i = 0 ∧ j = 17) ∧ ¬ (i = 36 ∧ j = 3) → iu (iu c 36 3 0) 0 17 0 i j = c i j := fun i j q => by rw [iu_ap, if_neg (by omega), iu_ap, if_neg (by omega)]
  have hm : ∀ i j, ¬ (i = 0 ∧ (j = 0 ∨ j = 37)) → iu (iu m 0 37 0) 0 0 0 i j = m i j := fun i j q => by rw [iu_ap, if_neg (by omega), iu_ap, if_neg (by omega)]
  have c3 : iu (iu c 36 3 0) 0 17 0 36 3 = 0 := by rw [iu_o (by decide), iu_eq]
  have m37 : iu (iu m 0 37 0) 0 0 0 0 37 = 0 := by rw [iu_k (by decide), iu_eq]
  have u0 : iu (iu c 36 3 0) 0 17 0 0 17 = iu (iu m 0 37 0) 0 0 0 0 0 := by rw [iu_eq, iu_eq]
  generalize iu (iu c 36 3 0) 0 17 0 = c' at *
  generalize iu (iu m 0 37 0) 0 0 0 = m' at *
  refine ⟨a0, ?_, RT_f a2 (fun i j q => hc i j (by omega)) (fun i j q => hm i j (by omega)), RS_f a3 (fun i j q => hc i j (by omega)) (fun i j q => hm i j (by omega)), RR_f a4 (fun j => hc _ _ (by omega)) (hm _ _ (by omega)) (hm _ _ (by omega)), RP_f a5 (fun i j q => hc i j (by omega)) (fun i j q => hm i j (by omega)), RSd_f a6 (fun i j q => hc i j (by omega)) (fun i j q => hm i j (by omega)), RB_f a7 (fun i j q => hc i j (by omega)), RO_f a8 (fun i j q => hc i j (by omega)), RK_f a9 (fun i j q => hc i j (by omega)) (fun i j q => hm i j (by omega)), ?_, RF_f a11 (fun i j q => hc i j (by omega)) (fun i j q => hm i j (by omega)), RG_f a12 (fun i j q => hc i j (by omega)) (fun j q => hm _ _ (by omega)), RH_f a13 (fun i j q => hc i j (by omega)) (fun i j q => hm i j (by omega))⟩
  · exact u0
  · unfold RN nOk kOk
    rw [c3, m37]
    refine ⟨⟨⟨by omega, fun k k0 k1 => by omega⟩, fun k k0 k1 => by omega, fun i j i0 i1 j1 => by omega⟩, rfl, ⟨by omega, fun k k0 k1 => by omega⟩, fun x => rfl⟩

