/-! ===== a sheet: the whole reading, the class ===== -/
theorem ctk_sh : ∀ i, i < ctC.length → ((ctk i).1 = 55 ∨ (ctk i).1 = 119) → (ctk i).2.1 < 3 := by decide +kernel
theorem RC_rs {rv : Nat → Nat → Option Nat} {o j : Nat} {x : Option Nat} (hR : RC rv) (ho : isSh o) (hj : 3 ≤ j) : RC (ru rv o j x) := by
  intro i
  unfold ru
  rw [if_neg]
  · exact hR i
  · intro e
    by_cases h : i < ctC.length
    · have := ctk_sh i h (by rw [e.1]; exact ho)
      omega
    · have : ctk i = (0, 0, 1) := by unfold ctk; rw [List.getD_eq_getElem?_getD, List.getElem?_eq_none (by omega)]; rfl
      rw [this] at e
      unfold isSh at ho
      dsimp only at e
      omega
theorem nx_i {m : Nat → Nat → Int} : nx (iu (iu m 0 46 0) 0 45 0) = nx m := by
  funext i j
  unfold nx
  rw [iu_row (i := 29) (by decide), iu_row (i := 29) (by decide), iu_k (i := 0) (j := 44) (by decide), iu_k (i := 0) (j := 44) (by decide), iu_k (i := 0) (j := 47) (by decide), iu_k (i := 0) (j := 47) (by decide)]
  rw [iu_ap, iu_ap, iu_ap, iu_ap, iu_ap, iu_ap, iu_ap, iu_ap, iu_ap, iu_ap]
  by_cases h : i = 0 ∧ j = 45
  · simp [h]
  · by_cases h' : i = 0 ∧ j = 46
    · simp [h']
    · simp only [if_neg h, if_neg h']
/-- the class's frame of a whole reading -/
def gS (c c' : Nat → Nat → Int) (o : Nat) : Prop := ∀ a j, ¬ (o ≤ a ∧ a < o + 64) → c' a j = c a j
def gV (rv rv' : Nat → Nat → Option Nat) (o : Nat) : Prop := ∀ a j, ¬ (o ≤ a ∧ a < o + 62) → rv' a j = rv a j
theorem C_parse {G : ZG} {d : Nat} {c w : Nat → Nat → Int} {K : Option AV → AH → Prop} {rv : Nat → Nat → Option Nat} {o0 : Nat} {x2 : Int} (hR : RC rv) (ho : isSh o0) (hx : 0 ≤ x2 ∧ x2 ≤ 600) (hb : bOK (c 54)) (hw : bOK (w 29)) (e44 : w 0 44 = x2) (e47 : w 0 47 = 0) (e51 : w 0 51 = 0) (e50 : w 0 50 = -1) (e70 : w 0 70 = 0) (e71 : w 0 71 = 0) (e74 : w 0 74 = 0) (et : ∀ k : Int, 0 ≤ k → k < x2 → c 54 k.toNat = w 29 k.toNat) (k : ∀ c' rv' m', (∀ G d K, ((m' 0 51 = 0 → WFA m') → EZ G d K m') → CZ G d K (nx w)) → PF o0 c' m' → mF w m' → gS c c' o0 → gV rv rv' o0 → RC rv' → (m' 0 51 = 0 → PR o0 c' m' ∧ PM m' ∧ Blk o0 rv' (m' 42) 4 0 (m' 0 70) ∧ rv' o0 10 = hd o0 0 (m' 0 70)) → K none (mkC c' rv')) : Z G mX6_parse (d + 12 + 9) 0 0 0 [vr (some o0), vr (some 54), vi x2] [] (mkC c rv) K := by
  have n54 : (54 : Nat) ≠ o0 := (sh_n ho).1.1
  apply sX6_parse_0 hR ho
  have hR1 : RC (ru rv o0 4 (some 54)) := RC_rs hR ho (by decide)
  have g1 : gV rv (ru rv o0 4 (some 54)) o0 := fun a j h => ru_o (by omega)
  have ht1 : ru rv o0 4 (some 54) o0 4 = some 54 := ru_eq
  generalize ru rv o0 4 (some 54) = rv1 at *
  have emin : min x2 ((600 : Nat) : Int) = x2 := by omega
  rw [emin]
  have f1 : ∀ a, a ≠ o0 → (iu (iu (iu (iu (iu (iu c o0 5 x2) o0 6 0) o0 3 0) o0 11 0) o0 12 0) o0 13 (-1)) a = c a := fun a h => by rw [iu_row h, iu_row h, iu_row h, iu_row h, iu_row h, iu_row h]
  have f5 : (iu (iu (iu (iu (iu (iu c o0 5 x2) o0 6 0) o0 3 0) o0 11 0) o0 12 0) o0 13 (-1)) o0 5 = x2 := by rw [iu_k (by decide), iu_k (by decide), iu_k (by decide), iu_k (by decide), iu_k (by decide)]; exact iu_eq
  have f6 : (iu (iu (iu (iu (iu (iu c o0 5 x2) o0 6 0) o0 3 0) o0 11 0) o0 12 0) o0 13 (-1)) o0 6 = 0 := by rw [iu_k (by decide), iu_k (by decide), iu_k (by decide), iu_k (by decide)]; exact iu_eq
  have f3 : (iu (iu (iu (iu (iu (iu c o0 5 x2) o0 6 0) o0 3 0) o0 11 0) o0 12 0) o0 13 (-1)) o0 3 = 0 := by rw [iu_k (by decide), iu_k (by decide), iu_k (by decide)]; exact iu_eq
  have f11 : (iu (iu (iu (iu (iu (iu c o0 5 x2) o0 6 0) o0 3 0) o0 11 0) o0 12 0) o0 13 (-1)) o0 11 = 0 := by rw [iu_k (by decide), iu_k (by decide)]; exact iu_eq
  have f12 : (iu (iu (iu (iu (iu (iu c o0 5 x2) o0 6 0) o0 3 0) o0 11 0) o0 12 0) o0 13 (-1)) o0 12 = 0 := by rw [iu_k (by decide)]; exact iu_eq
  have f13 : (iu (iu (iu (iu (iu (iu c o0 5 x2) o0 6 0) o0 3 0) o0 11 0) o0 12 0) o0 13 (-1)) o0 13 = -1 := iu_eq
  generalize (iu (iu (iu (iu (iu (iu c o0 5 x2) o0 6 0) o0 3 0) o0 11 0) o0 12 0) o0 13 (-1)) = c1 at *
  -- beside a state that tells of no token
  have p0 : PR o0 (iu (iu c1 o0 8 0) o0 7 0) (iu (iu w 0 46 0) 0 45 0) := by
    have a0 : ∀ j, j ≠ 7 → j ≠ 8 → iu (iu c1 o0 8 0) o0 7 0 o0 j = c1 o0 j := fun j p q => by rw [iu_k p, iu_k q]
    have a8 : iu (iu c1 o0 8 0) o0 7 0 o0 8 = 0 := by rw [iu_k (by decide)]; exact iu_eq
    have a7 : iu (iu c1 o0 8 0) o0 7 0 o0 7 = 0 := iu_eq
    have a1 : ∀ a, a ≠ o0 → iu (iu c1 o0 8 0) o0 7 0 a = c a := fun a p => by rw [iu_row p, iu_row p]; exact f1 a p
    have b0 : ∀ j, j ≠ 45 → j ≠ 46 → iu (iu w 0 46 0) 0 45 0 0 j = w 0 j := fun j p q => by rw [iu_k p, iu_k q]
    have b45 : iu (iu w 0 46 0) 0 45 0 0 45 = 0 := iu_eq
    have b46 : iu (iu w 0 46 0) 0 45 0 0 46 = 0 := by rw [iu_k (by decide)]; exact iu_eq
    have b29 : iu (iu w 0 46 0) 0 45 0 29 = w 29 := by rw [iu_row (by decide), iu_row (by decide)]
    refine ⟨⟨⟨?_, ?_, ?_⟩, ⟨?_, ?_⟩, ?_, ?_, ?_, ?_, ?_, ?_, ?_, ?_⟩, ⟨?_, ?_, ?_⟩, ⟨?_, ?_, ?_⟩, ⟨?_, ?_, ?_⟩⟩
    · rw [a8, a0 6 (by decide) (by decide), a0 5 (by decide) (by decide), f5, f6]; omega
    · rw [a1 54 n54]; exact hb
    · rw [a7]; omega
    · rw [b46, b0 47 (by decide) (by decide), b0 44 (by decide) (by decide), e44, e47]; omega
    · rw [b29]; exact hw
    · rw [a0 5 (by decide) (by decide), b0 44 (by decide) (by decide), f5, e44]
    · rw [b0 44 (by decide) (by decide), e44, a1 54 n54, b29]; exact et
    · rw [a0 6 (by decide) (by decide), b0 47 (by decide) (by decide), f6, e47]
    · rw [a8, b46]
    · rw [a7, b45]; decide
    · rw [a7]; omega
    · rw [b45]; omega
    · rw [b45]; omega
    · rw [a0 12 (by decide) (by decide), b0 51 (by decide) (by decide), f12, e51]
    · rw [a0 13 (by decide) (by decide), b0 50 (by decide) (by decide), f13, e50]
    · rw [b0 51 (by decide) (by decide), e51]; omega
    · rw [a0 3 (by decide) (by decide), b0 71 (by decide) (by decide), f3, e71]
    · rw [b0 71 (by decide) (by decide), e71]; omega
    · rw [b0 71 (by decide) (by decide), e71]; intro i i0 i1; omega
    · rw [a0 11 (by decide) (by decide), b0 70 (by decide) (by decide), f11, e70]
    · rw [b0 70 (by decide) (by decide), e70]; omega
    · rw [b0 70 (by decide) (by decide), e70]; intro _ i i0 i1; omega
  apply sX6_parse_40 hR1 ho ht1
  rw [f5, f6, f1 54 n54]
  refine ⟨by omega, hx.2, hb, fun v f => ?_⟩
  have fa : aF (iu (iu c1 o0 8 0) o0 7 0) v o0 := fun a j h => by
    rw [f.1 a j h, iu_ap, if_neg (by omega), iu_ap, if_neg (by omega)]
  have ft : tkC (iu (iu c1 o0 8 0) o0 7 0) v o0 := by
    have := f.2
    unfold tkC at *
    rw [iu_row (i := 54) n54, iu_row (i := 54) n54, iu_k (i := o0) (j := 5) (by decide), iu_k (i := o0) (j := 5) (by decide), iu_k (i := o0) (j := 6) (by decide), iu_k (i := o0) (j := 6) (by decide)]
    exact this
  have pv := PR_next ho p0 fa ft
  rw [nx_i] at pv
  have wn : ∀ j, j ≠ 45 → j ≠ 46 → j ≠ 47 → j ≠ 48 → nx w 0 j = w 0 j := fun j p q r s => nx_f.2 j p q r s
  have w70 : nx w 0 70 = 0 := by rw [wn 70 (by decide) (by decide) (by decide) (by decide)]; exact e70
  have w74 : nx w 0 74 = 0 := by rw [wn 74 (by decide) (by decide) (by decide) (by decide)]; exact e74
  have w51 : nx w 0 51 = 0 := by rw [wn 51 (by decide) (by decide) (by decide) (by decide)]; exact e51
  have wm : PM (nx w) := by
    refine ⟨?_, by rw [w70]; omega, by rw [w74]; omega, by rw [w74]; intro t t0 t1; omega⟩
    have := MT_nx (m := iu (iu w 0 46 0) 0 45 0) ⟨p0.1.2.1, p0.1.2.2.2.2.2.2.2.2.2, p0.2.2.1.2.1⟩
    rw [nx_i] at this; exact this
  have gv : gS c v o0 := fun a j h => by rw [f.1 a j (by omega), f1 a (by omega)]
  refine C_readSteps 4 G d v (nx w) _ rv1 o0 0 hR1 ho ht1 pv w51 w74.symm (by omega) wm (fun c2 rv2 m2 q so ok => ?_)
  obtain ⟨a1, a2, a3, a4, a5, a6⟩ := so
  have hR2 := RC_sR hR1 ho a4
  have ht2 := sR_4 a4 ht1
  show Z G mX6_parse (d + 12 + 9) 0 0 50 [vr (some o0), vu, vu] [vr q, vr (some o0)] (mkC c2 rv2) K
  apply sX6_parse_50 hR2 ho ht2
  have hR3 : RC (ru rv2 o0 10 q) := RC_rs hR2 ho (by decide)
  have g2 : gS c c2 o0 := fun a j h => by rw [a3 a j (by omega) (by omega)]; exact gv a j h
  have g3 : gV rv (ru rv2 o0 10 q) o0 := fun a j h => by rw [ru_o (by omega), a4 a j (by omega)]; exact g1 a j h
  have m2f : mF w m2 := mF_t (mF_k kF_nx) a5
  by_cases z2 : m2 0 51 = 0
  · obtain ⟨b1, b2, b3⟩ := ok z2
    obtain ⟨p1, p2, -, -, -⟩ := a6 z2
    have pr := a2.2 z2
    have tk := (tk41 pr.1).2.2.2.2
    have c20 : c2 o0 12 = 0 := by rw [a2.1.1]; exact z2
    refine ⟨fun e7 => k c2 _ m2 (fun G d K e => a1 G d K (L_done z2 (tk.mp e7) (by omega) (fun wf => e (fun _ => wf)))) a2.1 m2f g2 g3 hR3 (fun _ => ⟨pr, p1, ?_, ?_⟩), fun n7 => ?_⟩
    · rw [w70] at b2
      refine Blk_c 4 _ _ b2 (by omega) (fun i il ir => ⟨fun j => ru_o (by omega), rfl, rfl, rfl⟩)
    · rw [ru_eq, b3, w70]
    · refine C_mis hR3 ho c20 ?_
      refine Z.fg (L' := [vu, vu, vu]) ⟨Or.inr rfl, Or.inl rfl, Or.inl rfl, trivial⟩ ?_
      apply sX6_parse_64 hR3
      have pm := PR_mis ho pr c20
      have ns : ¬ mfail 2 m2 0 51 = 0 := mfail_51 (by omega)
      refine k _ _ (mfail 2 m2) (fun G d K e => a1 G d K (L_step p1 (fun g => n7 (tk.mpr g.1)) (fun g => by omega) (by rw [knd_n b1]; exact ⟨fun g => absurd g ns, fun _ => e (fun g => absurd g ns)⟩) z2)) pm.2.1 (mF_t m2f (mF_k kF_fail)) (fun a j h => ?_) g3 hR3 (fun g => absurd g ns)
      rw [eF_c a j (by omega)]; exact g2 a j h
  · have c2n : ¬ c2 o0 12 = 0 := by rw [a2.1.1]; exact z2
    have fin := k c2 (ru rv2 o0 10 q) m2 (fun G d K e => a1 G d K ⟨fun g => absurd g z2, fun _ => e (fun g => absurd g z2)⟩) a2.1 m2f g2 g3 hR3 (fun g => absurd g z2)
    refine ⟨fun _ => fin, fun _ => ?_⟩
    apply sX6_misplaced_0 hR3 ho
    refine ⟨fun _ => ?_, fun g => absurd g c2n⟩
    refine Z.fg (L' := [vu, vu, vu]) ⟨Or.inr rfl, Or.inl rfl, Or.inl rfl, trivial⟩ ?_
    apply sX6_parse_64 hR3
    exact fin

