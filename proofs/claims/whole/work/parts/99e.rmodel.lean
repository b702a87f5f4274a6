/-! ===== a run: the model's questions ===== -/
def wrM (iv : Nat → Nat → Int) (x : Int) : Int := wrS (iv 30 x.toNat) (iv 31 x.toNat) (mB iv x) (mE iv x) (iv 39 x.toNat) (iv 0 4) (iv 4 (iv 31 x.toNat).toNat) (iv 7 (iv 0 81).toNat) (iv 10 (iv 0 81).toNat) (stuckM iv (iv 0 81))
theorem M_wrongStep {G : ZG} {d : Nat} {iv : Nat → Nat → Int} {K : Option AV → AH → Prop} {x1 : Int} (h1 : 0 ≤ x1 ∧ x1 < 60) (hok : okSide iv (iv 0 81)) (hs : 0 ≤ iv 0 4 ∧ iv 0 4 ≤ 10) (hn : iv 30 x1.toNat = 1 → 0 ≤ iv 31 x1.toNat ∧ iv 31 x1.toNat ≤ 100) (h2 : iv 30 x1.toNat = 2 → (0 ≤ mB iv x1 ∧ mB iv x1 ≤ 100) ∧ (0 ≤ mE iv x1 ∧ mE iv x1 ≤ 100)) (k : K (some (vi (wrM iv x1))) (mkM iv)) : Z G mX12_wrongStep (d + 2) 0 0 0 [vr (some 0), vi x1, vu] [] (mkM iv) K := by
  have h7 := hok.1
  have hc := hok.2.1
  unfold wrM wrS at k
  apply sX12_wrongStep_0
  refine ⟨by omega, by omega, fun a => ?_, fun a => ⟨by omega, fun b => ⟨by omega, ?_, fun e => ?_, fun e => ?_⟩, fun b => ?_⟩, fun a => ⟨fun b => ?_, fun b => ⟨by omega, by omega, by omega, fun e => ?_, fun e => ⟨by omega, by omega, by omega, fun f => ⟨by omega, fun g => ⟨by omega, by omega, by omega, ?_, by omega, ?_, fun i => ?_, fun i => ?_⟩, fun g => ?_⟩, fun f => ?_⟩⟩⟩, fun a => ⟨fun b => ?_, fun b => ⟨by omega, fun e => ⟨by omega, fun f => ⟨by omega, fun g => ?_, fun g => ?_⟩, fun f => ?_⟩, fun e => ?_⟩⟩, fun a => ?_, fun a => ?_, fun a => ⟨by omega, fun b => ?_, fun b => ⟨hok, fun e => ?_, fun e => ?_⟩⟩⟩
  · exact K_i (by rw [if_neg (by omega), if_neg (by omega), if_neg (by omega), if_neg (by omega)]) k
  · have := hn a; omega
  · exact K_i (by rw [if_pos a, if_pos b, if_pos e]) k
  · exact K_i (by rw [if_pos a, if_pos b, if_neg (by omega)]) k
  · exact K_i (by rw [if_pos a, if_neg b]) k
  · exact K_i (by rw [if_neg (by omega), if_pos a, if_neg (by omega)]) k
  · exact K_i (by rw [if_neg (by omega), if_pos a, if_neg (by omega)]) k
  · have := h2 a; omega
  · have := h2 a; omega
  · exact K_i (by rw [if_neg (by omega), if_pos a, if_pos (by omega), if_pos g, if_pos (by omega)]) k
  · exact K_i (by rw [if_neg (by omega), if_pos a, if_pos (by omega), if_pos g, if_neg (by omega)]) k
  · exact K_i (by rw [if_neg (by omega), if_pos a, if_pos (by omega), if_neg g]) k
  · exact K_i (by rw [if_neg (by omega), if_pos a, if_neg (by omega)]) k
  · exact K_i (by rw [if_neg (by omega), if_neg (by omega), if_pos a, if_neg (by omega)]) k
  · exact K_i (by rw [if_neg (by omega), if_neg (by omega), if_pos a, if_pos (by omega), if_pos f, if_neg g]) k
  · exact K_i (by rw [if_neg (by omega), if_neg (by omega), if_pos a, if_pos (by omega), if_pos f, if_pos g]) k
  · exact K_i (by rw [if_neg (by omega), if_neg (by omega), if_pos a, if_pos (by omega), if_neg f]) k
  · exact K_i (by rw [if_neg (by omega), if_neg (by omega), if_pos a, if_neg (by omega)]) k
  · exact K_i (by rw [if_neg (by omega), if_neg (by omega), if_neg (by omega), if_neg (by omega)]) k
  · exact K_i (by rw [if_neg (by omega), if_neg (by omega), if_neg (by omega), if_neg (by omega)]) k
  · exact K_i (by rw [if_neg (by omega), if_neg (by omega), if_neg (by omega), if_pos a, if_neg (by omega)]) k
  · exact K_i (by rw [if_neg (by omega), if_neg (by omega), if_neg (by omega), if_pos a, if_neg (by omega)]) k
  · exact K_i (by rw [if_neg (by omega), if_neg (by omega), if_neg (by omega), if_pos a, if_pos ⟨b, e⟩]) k
def hlM (iv : Nat → Nat → Int) (x r : Int) : Int := hlS (iv 39 x.toNat) (if iv 40 x.toNat = 60 then 0 else 1) (iv 31 x.toNat) (iv 47 (iv 41 x.toNat).toNat) (if iv 39 x.toNat = 0 then iv 7 (iv 0 81).toNat else r)
def mScr (iv v : Nat → Nat → Int) : Prop := ∀ i j, i ≠ 15 → ¬ (i = 0 ∧ j = 20) → v i j = iv i j
theorem M_holds {G : ZG} {d : Nat} {iv : Nat → Nat → Int} {K : Option AV → AH → Prop} {x1 : Int} (h1 : 0 ≤ x1 ∧ x1 < 60) (hok : okSide iv (iv 0 81)) (hst : ¬ iv 39 x1.toNat = 2 → ¬ iv 39 x1.toNat = 0 → stuckM iv (iv 0 81) = -1) (hn : iv 39 x1.toNat = 2 → 0 ≤ iv 41 x1.toNat ∧ iv 41 x1.toNat ≤ 7) (k : ∀ (v : Nat → Nat → Int) (r : Int), mScr iv v → (¬ iv 39 x1.toNat = 2 → ¬ iv 39 x1.toNat = 0 → roomM iv (iv 0 81) r) → K (some (vi (hlM iv x1 r))) (mkM v)) : Z G mX12_holds (d + 4) 0 0 0 [vr (some 0), vi x1, vu] [] (mkM iv) K := by
  have h7 := hok.1
  apply sX12_holds_0
  have go : ∀ (v : Nat → Nat → Int) (r : Int), mScr iv v → ¬ iv 39 x1.toNat = 2 → (¬ iv 39 x1.toNat = 0 → roomM iv (iv 0 81) r) → Z G mX12_holds (d + 4) 0 0 61 [vr (some 0), vi x1, vi (if iv 39 x1.toNat = 0 then iv 7 (iv 0 81).toNat else r)] [] (mkM v) K := by
    intro v r f n2 rm
    have kk := k v r f (fun _ => rm)
    unfold hlM hlS at kk
    rw [if_neg n2] at kk
    generalize (if iv 39 x1.toNat = 0 then iv 7 (iv 0 81).toNat else r) = y at *
    apply sX12_holds_61
    rw [f 40 _ (by decide) (by omega), f 31 _ (by decide) (by omega)]
    refine ⟨by omega, fun a => ⟨by omega, fun b => ?_, fun b => ?_⟩, fun a => ⟨by omega, fun b => ?_, fun b => ?_⟩⟩
    · exact K_i (by rw [if_neg a, if_neg (by decide), if_neg (by omega)]) kk
    · exact K_i (by rw [if_neg a, if_neg (by decide), if_pos b]) kk
    · exact K_i (by rw [if_pos a, if_pos rfl, if_neg (by omega)]) kk
    · exact K_i (by rw [if_pos a, if_pos rfl, if_pos b]) kk
  refine ⟨by omega, fun a => ⟨by omega, fun b => ⟨hok, hst a b, fun v r q => ?_⟩, fun b => ⟨by omega, ?_⟩⟩, fun a => ⟨by omega, by have := hn a; omega, fun b => ?_, fun b => ?_⟩⟩
  · have := go v r q.1 a (fun _ => q.2.1)
    rw [if_neg b] at this; exact this
  · have := go iv 0 (fun _ _ _ _ => rfl) a (fun n => absurd b n)
    rw [if_pos b] at this; exact this
  · have := k iv 0 (fun _ _ _ _ => rfl) (fun n => absurd a n)
    exact K_i (by unfold hlM hlS; rw [if_pos a, if_pos b]) this
  · have := k iv 0 (fun _ _ _ _ => rfl) (fun n => absurd a n)
    exact K_i (by unfold hlM hlS; rw [if_pos a, if_neg b]) this
/-- the model's state behind a plain step -/
def plM2 (iv : Nat → Nat → Int) (x : Int) : Nat → Nat → Int :=
  if iv 30 x.toNat = 0 then iu iv 0 81 (iv 31 x.toNat)
  else if iv 30 x.toNat = 1 then layM iv (iv 0 81) (iv 7 (iv 0 81).toNat) (iv 31 x.toNat) (fun _ => 0) (-1)
  else if iv 30 x.toNat = 2 then layM iv (iv 0 81) (iv 7 (iv 0 81).toNat) (mE iv x - mB iv x) (fM iv x (iv 0 81) (iv 7 (iv 0 81).toNat)) (iv 31 x.toNat)
  else if iv 30 x.toNat = 3 then iu iv 10 (iv 0 81).toNat (iv 31 x.toNat)
  else iu (iu iv 47 (iv 41 x.toNat).toNat (iv 0 81)) 48 (iv 41 x.toNat).toNat (iv 7 (iv 0 81).toNat)
theorem M_does {G : ZG} {d : Nat} {iv : Nat → Nat → Int} {K : Option AV → AH → Prop} {x1 : Int} (h1 : 0 ≤ x1 ∧ x1 < 60) (hk : 0 ≤ iv 30 x1.toNat ∧ iv 30 x1.toNat ≤ 4) (h7 : 0 ≤ iv 0 81 ∧ iv 0 81 ≤ 1) (hn : 0 ≤ iv 7 (iv 0 81).toNat) (k1 : iv 30 x1.toNat = 1 → (0 ≤ iv 31 x1.toNat ∧ iv 31 x1.toNat ≤ 100) ∧ iv 7 (iv 0 81).toNat + iv 31 x1.toNat ≤ 400) (k2 : iv 30 x1.toNat = 2 → (0 ≤ iv 31 x1.toNat ∧ iv 31 x1.toNat < 10) ∧ (0 ≤ mB iv x1 ∧ mB iv x1 < mE iv x1 ∧ mE iv x1 ≤ 60) ∧ (iv 35 x1.toNat = -1 ∨ (1 ≤ iv 35 x1.toNat ∧ iv 35 x1.toNat ≤ 60)) ∧ (-1 ≤ iv 34 x1.toNat) ∧ (∀ q : Int, 0 ≤ q → q < mE iv x1 → 0 ≤ iv 6 (60 * iv 31 x1.toNat + q).toNat ∧ iv 6 (60 * iv 31 x1.toNat + q).toNat ≤ 40) ∧ iv 7 (iv 0 81).toNat + (mE iv x1 - mB iv x1) ≤ 400) (k4 : iv 30 x1.toNat = 4 → 0 ≤ iv 41 x1.toNat ∧ iv 41 x1.toNat ≤ 7) (k : K none (mkM (plM2 iv x1))) : Z G mX12_does (d + 3) 0 0 0 [vr (some 0), vi x1, vu] [] (mkM iv) K := by
  apply sX12_does_0
  unfold plM2 at k
  refine ⟨by omega, fun a => ⟨by omega, ?_, by omega, by omega, ?_, ?_⟩, fun a => ⟨by omega, ?_⟩, fun a => ?_, fun a => ?_, fun a => ⟨by omega, by omega, ?_⟩⟩
  · have := k4 (by omega); omega
  · have := k4 (by omega); omega
  · rw [if_neg (by omega), if_neg (by omega), if_neg (by omega), if_neg (by omega)] at k; exact k
  · rw [if_pos a] at k; exact k
  · rw [if_neg (by omega), if_pos a] at k
    have b := k1 a
    refine lp_up (P := fun q v => Z G mX12_does (d + 3) 0 0 51 [vr (some 0), vi x1, vi q] [] (mkM v) K) (iv 31 x1.toNat) (fun q v => 0 ≤ q ∧ v = layM iv (iv 0 81) (iv 7 (iv 0 81).toNat) q (fun _ => 0) (-1)) ?_ ?_ 0 iv (by omega) ⟨by omega, (layM_0 rfl).symm⟩
    · rintro v ⟨-, rfl⟩
      apply sX12_does_51
      rw [layM_o (i := 31) (by decide) (by decide) (by decide)]
      exact ⟨by omega, fun _ => k, fun h => by omega⟩
    · rintro q v hq ⟨q0, rfl⟩ ih
      apply sX12_does_51
      rw [layM_o (i := 31) (by decide) (by decide) (by decide), layM_o (i := 0) (by decide) (by decide) (by decide)]
      refine ⟨by omega, fun h => by omega, fun _ => M_putsL h7 (by omega) rfl ?_⟩
      apply sX12_does_71
      exact ⟨by omega, ih _ ⟨by omega, rfl⟩⟩
  · rw [if_neg (by omega), if_neg (by omega), if_pos a] at k
    obtain ⟨b1, b2, b3, b4, b5, b6⟩ := k2 a
    refine M_laysSong h1 h7 b1 b2 b3 b4 b5 ⟨hn, b6⟩ ?_
    refine Z.fg (L' := [vu, vu, vu]) ⟨Or.inr rfl, Or.inr rfl, Or.inl rfl, trivial⟩ ?_
    apply sX12_does_85
    exact k
  · rw [if_neg (by omega), if_neg (by omega), if_neg (by omega), if_pos a] at k; exact k
/-! ===== the class's plain steps ===== -/
theorem sdA_c (s : Int) : sdA s = 16 ∨ sdA s = 20 := by unfold sdA; split <;> simp
def plC2 (iv : Nat → Nat → Int) (p a b : Nat) : Nat → Nat → Int :=
  if iv p 0 = 0 then iu iv 40 7 (iv p 2)
  else if iv p 0 = 1 then layC iv (sdA (iv 40 7)) (iv (sdA (iv 40 7)) 4) (iv p 2) (fun _ => 0) (-1) (iv (sdA (iv 40 7)) 6)
  else if iv p 0 = 2 then layC iv (sdA (iv 40 7)) (iv (sdA (iv 40 7)) 4) (stE2 iv p - stB iv p) (fC iv p (iv (sdA (iv 40 7)) 4)) (iv p 2) (iv (sdA (iv 40 7)) 6)
  else if iv p 0 = 3 then iu iv (sdA (iv 40 7)) 5 (iv p 2)
  else iu (iu iv a (iv p 8).toNat (iv 40 7)) b (iv p 8).toNat (iv (sdA (iv 40 7)) 4)
theorem C_doPlain {G : ZG} {d : Nat} {iv : Nat → Nat → Int} {K : Option AV → AH → Prop} {rv : Nat → Nat → Option Nat} {o1 a b : Nat} (hR : RC rv) (h1 : isSt o1) (h3 : rv 40 3 = some a) (sa : ShC[a]? = some (.inr (0, 8))) (h4 : rv 40 4 = some b) (sb : ShC[b]? = some (.inr (0, 8))) (ha : 50 ≤ a ∧ a ≤ 53) (hk : 0 ≤ iv o1 0 ∧ iv o1 0 ≤ 4) (h7 : 0 ≤ iv 40 7 ∧ iv 40 7 < 2) (hn : 0 ≤ iv (sdA (iv 40 7)) 4) (hc : 0 ≤ iv (sdA (iv 40 7)) 6 ∧ iv (sdA (iv 40 7)) 6 ≤ 100000000) (k0 : iv o1 0 = 0 → 0 ≤ iv o1 2 ∧ iv o1 2 ≤ 1) (k1 : iv o1 0 = 1 → 0 ≤ iv o1 2 ∧ iv (sdA (iv 40 7)) 4 + iv o1 2 ≤ 400) (k2 : iv o1 0 = 2 → (0 ≤ iv o1 2 ∧ iv o1 2 < 10) ∧ (0 ≤ stB iv o1 ∧ stB iv o1 < stE2 iv o1 ∧ stE2 iv o1 ≤ 60) ∧ (iv o1 6 = -1 ∨ (1 ≤ iv o1 6 ∧ iv o1 6 ≤ 60)) ∧ (-1 ≤ iv o1 5) ∧ (∀ q : Int, 0 ≤ q → q < stE2 iv o1 → 0 ≤ iv 11 (60 * iv o1 2 + q).toNat ∧ iv 11 (60 * iv o1 2 + q).toNat ≤ 40) ∧ iv (sdA (iv 40 7)) 4 + (stE2 iv o1 - stB iv o1) ≤ 400) (k4 : iv o1 0 = 4 → 0 ≤ iv o1 8 ∧ iv o1 8 ≤ 7) (k : K none (mkC (plC2 iv o1 a b) rv)) : Z G mX5_doPlain (d + 2) 0 0 0 [vr (some 40), vr (some o1)] [] (mkC iv rv) K := by
  have so : sdA (iv 40 7) = 16 ∨ sdA (iv 40 7) = 20 := by unfold sdA; split <;> simp
  apply sX5_doPlain_0 hR h1
  unfold plC2 at k
  refine ⟨fun e => ?_, fun e => ⟨fun f => ?_, fun f => ?_⟩, fun e => ⟨by omega, ?_, hc, ?_⟩, fun e => ?_, fun e => ⟨by omega, ?_⟩⟩
  · have n := k4 (by omega)
    rw [if_neg (by omega), if_neg (by omega), if_neg (by omega), if_neg (by omega)] at k
    apply sX5_setMark_0 hR h3 sa h4 sb
    have t40 : (iu iv a ((iv o1 8).toNat) (iv 40 7)) 40 7 = iv 40 7 := iu_o (by omega)
    have ts : ∀ s, (iu iv a ((iv o1 8).toNat) (iv 40 7)) (sdA s) 4 = iv (sdA s) 4 := fun s => iu_o (by have := sdA_c s; omega)
    rw [t40, ts]
    refine ⟨fun f => by omega, fun _ => ⟨by omega, by omega, by omega, ?_⟩⟩
    refine Z.fg (L' := [vu, vu]) ⟨Or.inr rfl, Or.inr rfl, trivial⟩ ?_
    apply sX5_doPlain_110 hR
    exact k
  · rw [if_pos e] at k
    have := k0 e
    rw [show iv o1 2 = 0 by omega] at k; exact k
  · rw [if_pos e, f] at k; exact k
  · have := k1 e; omega
  · rw [if_neg (by omega), if_pos e] at k; exact k
  · rw [if_neg (by omega), if_neg (by omega), if_pos e] at k
    obtain ⟨b1, b2, b3, b4, b5, b6⟩ := k2 e
    refine C_layStretch hR h1 h7 b1 b2 b3 b4 b5 ⟨hn, b6⟩ hc ?_
    refine Z.fg (L' := [vu, vu]) ⟨Or.inr rfl, Or.inr rfl, trivial⟩ ?_
    apply sX5_doPlain_80 hR
    exact k
  · rw [if_neg (by omega), if_neg (by omega), if_neg (by omega), if_pos e] at k; exact k

