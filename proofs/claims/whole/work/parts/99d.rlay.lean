/-! ===== a run: a stretch of a song is laid ===== -/
def fdS (x so fa lf : Int) : Int := if ¬ fa = -1 ∧ lf ≤ fa then ((if so = -1 then x else min x so) * lf).tdiv (fa + 1) else (if so = -1 then x else min x so)
theorem td_b {y lf fa : Int} (hy : 0 ≤ y ∧ y ≤ 40) (hl : 0 ≤ lf) (hf : lf ≤ fa) : (0 ≤ y * lf) ∧ (y * lf ≤ 40 * fa) ∧ 0 ≤ (y * lf).tdiv (fa + 1) ∧ (y * lf).tdiv (fa + 1) ≤ y := by
  have a : 0 ≤ y * lf := Int.mul_nonneg hy.1 hl
  have b : y * lf ≤ y * (fa + 1) := Int.mul_le_mul_of_nonneg_left (by omega) hy.1
  have c : y * lf ≤ 40 * fa := Int.mul_le_mul hy.2 hf hl (by omega)
  rw [Int.tdiv_eq_ediv_of_nonneg a]
  refine ⟨a, c, Int.ediv_nonneg a (by omega), ?_⟩
  exact Int.ediv_le_of_le_mul (by omega) b
theorem fdS_r {x so fa lf : Int} (hx : 0 ≤ x ∧ x ≤ 40) (hs : -1 ≤ so) (hl : 0 ≤ lf) : 0 ≤ fdS x so fa lf ∧ fdS x so fa lf ≤ 40 := by
  have y : 0 ≤ (if so = -1 then x else min x so) ∧ (if so = -1 then x else min x so) ≤ 40 := by split <;> omega
  unfold fdS
  generalize (if so = -1 then x else min x so) = z at *
  split
  · rename_i h
    have := td_b y hl h.2
    omega
  · exact y
def fC (iv : Nat → Nat → Int) (p : Nat) (n : Int) : Nat → Int := fun j => fdS (iv 11 (60 * iv p 2 + (stB iv p + (j - n))).toNat) (iv p 5) (iv p 6) (stE2 iv p - (stB iv p + (j - n)))
theorem C_layStretch {G : ZG} {d : Nat} {iv : Nat → Nat → Int} {K : Option AV → AH → Prop} {rv : Nat → Nat → Option Nat} {o1 : Nat} (hR : RC rv) (h1 : isSt o1) (h7 : 0 ≤ iv 40 7 ∧ iv 40 7 < 2) (h2 : 0 ≤ iv o1 2 ∧ iv o1 2 < 10) (hb : 0 ≤ stB iv o1 ∧ stB iv o1 < stE2 iv o1 ∧ stE2 iv o1 ≤ 60) (hf : iv o1 6 = -1 ∨ (1 ≤ iv o1 6 ∧ iv o1 6 ≤ 60)) (hs : -1 ≤ iv o1 5) (hl : ∀ q : Int, 0 ≤ q → q < stE2 iv o1 → 0 ≤ iv 11 (60 * iv o1 2 + q).toNat ∧ iv 11 (60 * iv o1 2 + q).toNat ≤ 40) (hn : 0 ≤ iv (sdA (iv 40 7)) 4 ∧ iv (sdA (iv 40 7)) 4 + (stE2 iv o1 - stB iv o1) ≤ 400) (hc : 0 ≤ iv (sdA (iv 40 7)) 6 ∧ iv (sdA (iv 40 7)) 6 ≤ 100000000) (k : K none (mkC (layC iv (sdA (iv 40 7)) (iv (sdA (iv 40 7)) 4) (stE2 iv o1 - stB iv o1) (fC iv o1 (iv (sdA (iv 40 7)) 4)) (iv o1 2) (iv (sdA (iv 40 7)) 6)) rv)) : Z G mX5_layStretch (d + 1) 0 0 0 [vr (some 40), vr (some o1), vu, vu, vu, vu] [] (mkC iv rv) K := by
  have so : sdA (iv 40 7) = 16 ∨ sdA (iv 40 7) = 20 := by unfold sdA; split <;> simp
  have ge : 57 ≤ o1 := by unfold isSt at h1; omega
  apply sX5_layStretch_0 hR h1
  refine ⟨h2, ?_⟩
  generalize ho : sdA (iv 40 7) = o at *
  have hsd : isSd o := by rw [← ho]; exact sdA_is _
  refine lp_up (P := fun q v => Z G mX5_layStretch (d + 1) 0 0 12 [vr (some 40), vr (some o1), vi (stE2 iv o1), vi q, vu, vu] [] (mkC v rv) K) (stE2 iv o1) (fun q v => stB iv o1 ≤ q ∧ v = layC iv o (iv o 4) (q - stB iv o1) (fC iv o1 (iv o 4)) (iv o1 2) (iv o 6)) ?_ ?_ (stB iv o1) iv (by omega) ⟨by omega, by rw [show stB iv o1 - stB iv o1 = 0 by omega]; exact (layC_0 rfl rfl).symm⟩
  · rintro v ⟨-, rfl⟩
    apply sX5_layStretch_12 hR h1
    exact ⟨fun _ => k, fun h => by omega⟩
  · rintro q v hq ⟨q0, ev⟩ ih
    have er : ∀ i, i ≠ 16 → i ≠ 17 → i ≠ 18 → i ≠ 20 → i ≠ 21 → i ≠ 22 → v i = iv i := fun i a b c e f g => by
      rw [ev]; exact layC_o (by omega) (by omega) (by omega)
    have e1 : v o1 = iv o1 := er o1 (by omega) (by omega) (by omega) (by omega) (by omega) (by omega)
    have e11 : v 11 = iv 11 := er 11 (by decide) (by decide) (by decide) (by decide) (by decide) (by decide)
    have e40 : v 40 = iv 40 := er 40 (by decide) (by decide) (by decide) (by decide) (by decide) (by decide)
    -- the level that is laid
    have key : ∀ x4 : Int, x4 = fdS (iv 11 (60 * iv o1 2 + q).toNat) (iv o1 5) (iv o1 6) (stE2 iv o1 - q) → Z G mX5_layStretch (d + 1) 0 0 85 [vr (some 40), vr (some o1), vi (stE2 iv o1), vi q, vi x4, vu] [] (mkC v rv) K := by
      intro x4 ex
      apply sX5_layStretch_85 hR h1
      rw [e40, e1, ho]
      refine ⟨by omega, ?_⟩
      rw [ev]
      refine C_appendL hR hsd (by omega) hc ?_ ?_
      · rw [ex]; unfold fC
        have t : (((iv o 4 + (q - stB iv o1)).toNat : Nat) : Int) - iv o 4 = q - stB iv o1 := by omega
        rw [t, show stB iv o1 + (q - stB iv o1) = q by omega]
      · show Z G mX5_layStretch (d + 1) 0 0 103 [vr (some 40), vr (some o1), vi (stE2 iv o1), vi q, vi x4, vu] [] _ K
        refine Z.fg (L' := [vr (some 40), vr (some o1), vi (stE2 iv o1), vi q, vu, vu]) ⟨Or.inl rfl, Or.inl rfl, Or.inl rfl, Or.inl rfl, Or.inr rfl, Or.inl rfl, trivial⟩ ?_
        apply sX5_layStretch_103 hR h1
        exact ⟨by omega, ih _ ⟨by omega, by rw [show q + 1 - stB iv o1 = q - stB iv o1 + 1 by omega]⟩⟩
    have lv := hl q (by omega) (by omega)
    have two : ∀ y : Int, (0 ≤ y ∧ y ≤ 40) → (y = if iv o1 5 = -1 then iv 11 (60 * iv o1 2 + q).toNat else min (iv 11 (60 * iv o1 2 + q).toNat) (iv o1 5)) → Z G mX5_layStretch (d + 1) 0 0 50 [vr (some 40), vr (some o1), vi (stE2 iv o1), vi q, vi y, vu] [] (mkC v rv) K := by
      intro y yr ey
      apply sX5_layStretch_50 hR h1
      refine ⟨by omega, ?_⟩
      apply sX5_layStretch_55 hR h1
      rw [e1]
      refine ⟨fun a => key _ ?_, fun a => ⟨fun b => key _ ?_, fun b => ?_⟩⟩
      · unfold fdS; rw [if_neg (by omega)]; exact ey
      · unfold fdS; rw [if_neg (by omega)]; exact ey
      · have t := td_b (y := y) (lf := stE2 iv o1 - q) (fa := iv o1 6) yr (by omega) b
        refine ⟨by omega, by omega, by omega, key _ ?_⟩
        unfold fdS; rw [if_pos ⟨by omega, b⟩, ey]
    apply sX5_layStretch_12 hR h1
    rw [e1, e11]
    refine ⟨fun a => by omega, fun _ => ⟨by omega, ?_⟩⟩
    apply sX5_layStretch_31 hR h1
    rw [e1]
    refine ⟨fun a => two _ lv (by rw [if_pos a]), fun a => two _ (by omega) (by rw [if_neg a])⟩
/-! ===== the model ===== -/
def fM (iv : Nat → Nat → Int) (x h n : Int) : Nat → Int := fun j => fdS (iv 6 (60 * iv 31 x.toNat + mB iv x + (j - (400 * h + n))).toNat) (iv 34 x.toNat) (iv 35 x.toNat) (mE iv x - mB iv x - (j - (400 * h + n)))
theorem M_laysSong {G : ZG} {d : Nat} {iv : Nat → Nat → Int} {K : Option AV → AH → Prop} {x1 : Int} (h1 : 0 ≤ x1 ∧ x1 < 60) (h7 : 0 ≤ iv 0 81 ∧ iv 0 81 ≤ 1) (h2 : 0 ≤ iv 31 x1.toNat ∧ iv 31 x1.toNat < 10) (hb : 0 ≤ mB iv x1 ∧ mB iv x1 < mE iv x1 ∧ mE iv x1 ≤ 60) (hf : iv 35 x1.toNat = -1 ∨ (1 ≤ iv 35 x1.toNat ∧ iv 35 x1.toNat ≤ 60)) (hs : -1 ≤ iv 34 x1.toNat) (hl : ∀ q : Int, 0 ≤ q → q < mE iv x1 → 0 ≤ iv 6 (60 * iv 31 x1.toNat + q).toNat ∧ iv 6 (60 * iv 31 x1.toNat + q).toNat ≤ 40) (hn : 0 ≤ iv 7 (iv 0 81).toNat ∧ iv 7 (iv 0 81).toNat + (mE iv x1 - mB iv x1) ≤ 400) (k : K none (mkM (layM iv (iv 0 81) (iv 7 (iv 0 81).toNat) (mE iv x1 - mB iv x1) (fM iv x1 (iv 0 81) (iv 7 (iv 0 81).toNat)) (iv 31 x1.toNat)))) : Z G mX12_laysSong (d + 2) 0 0 0 [vr (some 0), vi x1, vu, vu, vu, vu] [] (mkM iv) K := by
  apply sX12_laysSong_0
  refine ⟨h1, h2, h1, by omega, ?_⟩
  refine lp_up (P := fun q v => Z G mX12_laysSong (d + 2) 0 0 14 [vr (some 0), vi x1, vi (mE iv x1 - mB iv x1), vi q, vu, vu] [] (mkM v) K) (mE iv x1 - mB iv x1) (fun q v => 0 ≤ q ∧ v = layM iv (iv 0 81) (iv 7 (iv 0 81).toNat) q (fM iv x1 (iv 0 81) (iv 7 (iv 0 81).toNat)) (iv 31 x1.toNat)) ?_ ?_ 0 iv (by omega) ⟨by omega, (layM_0 rfl).symm⟩
  · rintro v ⟨-, rfl⟩
    apply sX12_laysSong_14
    exact ⟨fun _ => k, fun h => by omega⟩
  · rintro q v hq ⟨q0, ev⟩ ih
    have er : ∀ i, i ≠ 7 → i ≠ 8 → i ≠ 9 → v i = iv i := fun i a b c => by rw [ev]; exact layM_o a b c
    have e6 : v 6 = iv 6 := er 6 (by decide) (by decide) (by decide)
    have e0 : v 0 = iv 0 := er 0 (by decide) (by decide) (by decide)
    have e31 : v 31 = iv 31 := er 31 (by decide) (by decide) (by decide)
    have e34 : v 34 = iv 34 := er 34 (by decide) (by decide) (by decide)
    have e35 : v 35 = iv 35 := er 35 (by decide) (by decide) (by decide)
    have eB : mB v x1 = mB iv x1 := by unfold mB; rw [er 32 (by decide) (by decide) (by decide)]
    have key : ∀ x4 : Int, x4 = fdS (iv 6 (60 * iv 31 x1.toNat + mB iv x1 + q).toNat) (iv 34 x1.toNat) (iv 35 x1.toNat) (mE iv x1 - mB iv x1 - q) → Z G mX12_laysSong (d + 2) 0 0 108 [vr (some 0), vi x1, vi (mE iv x1 - mB iv x1), vi q, vi x4, vu] [] (mkM v) K := by
      intro x4 ex
      apply sX12_laysSong_108
      rw [e0, e31]
      refine ⟨by omega, ?_⟩
      rw [ev]
      refine M_putsL h7 (by omega) ?_ ?_
      · rw [ex]; unfold fM
        have t : (((400 * iv 0 81 + iv 7 (iv 0 81).toNat + q).toNat : Nat) : Int) - (400 * iv 0 81 + iv 7 (iv 0 81).toNat) = q := by omega
        rw [t]
      · show Z G mX12_laysSong (d + 2) 0 0 124 [vr (some 0), vi x1, vi (mE iv x1 - mB iv x1), vi q, vi x4, vu] [] _ K
        refine Z.fg (L' := [vr (some 0), vi x1, vi (mE iv x1 - mB iv x1), vi q, vu, vu]) ⟨Or.inl rfl, Or.inl rfl, Or.inl rfl, Or.inl rfl, Or.inr rfl, Or.inl rfl, trivial⟩ ?_
        apply sX12_laysSong_124
        exact ⟨by omega, ih _ ⟨by omega, rfl⟩⟩
    have lv := hl (mB iv x1 + q) (by omega) (by omega)
    rw [show 60 * iv 31 x1.toNat + (mB iv x1 + q) = 60 * iv 31 x1.toNat + mB iv x1 + q by omega] at lv
    have two : ∀ y : Int, (0 ≤ y ∧ y ≤ 40) → (y = if iv 34 x1.toNat = -1 then iv 6 (60 * iv 31 x1.toNat + mB iv x1 + q).toNat else min (iv 6 (60 * iv 31 x1.toNat + mB iv x1 + q).toNat) (iv 34 x1.toNat)) → Z G mX12_laysSong (d + 2) 0 0 66 [vr (some 0), vi x1, vi (mE iv x1 - mB iv x1), vi q, vi y, vu] [] (mkM v) K := by
      intro y yr ey
      apply sX12_laysSong_66
      refine ⟨by omega, ?_⟩
      apply sX12_laysSong_71
      rw [e35]
      refine ⟨by omega, fun a => key _ ?_, fun a => ⟨by omega, fun b => key _ ?_, fun b => ?_⟩⟩
      · unfold fdS; rw [if_neg (by omega)]; exact ey
      · unfold fdS; rw [if_neg (by omega)]; exact ey
      · have t := td_b (y := y) (lf := mE iv x1 - mB iv x1 - q) (fa := iv 35 x1.toNat) yr (by omega) b
        refine ⟨by omega, by omega, by omega, by omega, key _ ?_⟩
        unfold fdS; rw [if_pos ⟨by omega, b⟩, ey]
    apply sX12_laysSong_14
    rw [e31, e6, eB]
    refine ⟨fun a => by omega, fun _ => ⟨by omega, by omega, by omega, by omega, by omega, by omega, ?_⟩⟩
    apply sX12_laysSong_43
    rw [e34]
    refine ⟨by omega, fun a => two _ lv (by rw [if_pos a]), fun a => ⟨by omega, two _ (by omega) (by rw [if_neg a])⟩⟩

