/-! ===== passing on ===== -/
def bK (w : Nat → Nat → Int) (r p : Int) : Prop := inK (w 29 0) (w 29 1) r p
def SB (w : Nat → Nat → Int) (V : Int → Int → Int) : Prop := SolB (w 29 0) (w 29 1) (bcl w) (w 14 0) (w 14 1) V
def bE (w : Nat → Nat → Int) (r p r' p' x : Int) : Prop := edg (bcl w) (w 14 0) (w 14 1) r p r' p' x
def bF (w v : Nat → Nat → Int) : Prop := ∀ i j, i ≠ 26 → i ≠ 27 → i ≠ 28 → ¬ (i = 24 ∧ (j = 6 ∨ j = 7)) → v i j = w i j
def wOk (w : Nat → Nat → Int) : Prop := (w 29 0 ≤ 400 ∧ w 29 1 ≤ 400) ∧ cOk (w 29 0) (w 29 1) (bcl w) (w 14 0) (w 14 1) ∧ (0 ≤ w 24 8 ∧ w 24 8 < 800) ∧ (∀ V, SB w V → ∃ W, SB w W ∧ W (w 24 8 / 400) (w 24 8 % 400) = w 26 (w 24 8).toNat ∧ ∀ r p, bK w r p → W r p ≤ bcv w r p + 200)
def pI (w v : Nat → Nat → Int) (k ur up : Int) : Prop := bF w v ∧ qI v ∧ (∀ u : Int, 0 ≤ u → u < 800 → ¬ v 28 u.toNat = 0 → bK w (u / 400) (u % 400)) ∧ (∀ V, SB w V → ∀ r p, bK w r p → bcv v r p ≤ V r p) ∧ (∀ r p r' p' x, bK w r p → bK w r' p' → bE w r p r' p' x → bcv v r p + x ≤ bcv v r' p' ∨ ¬ v 28 (400 * r + p).toNat = 0 ∨ (r = ur ∧ p = up)) ∧ (∀ u : Int, 0 ≤ u → u < 800 → (¬ bK w (u / 400) (u % 400) → v 26 u.toNat = w 26 u.toNat)) ∧ (k + v 24 7 ≤ 1 + (sumA (v 26) 800 - sumA (w 26) 800)) ∧ (∀ r p, bK w r p → 0 ≤ bcv v r p ∧ bcv v r p ≤ 160000 + 100 * k) ∧ v 26 (w 24 8).toNat = w 26 (w 24 8).toNat
theorem bK_n {w : Nat → Nat → Int} {r p : Int} (h : w 29 0 ≤ 400 ∧ w 29 1 ≤ 400) (a : bK w r p) : (0 ≤ 400 * r + p ∧ 400 * r + p < 800) ∧ (400 * r + p) / 400 = r ∧ (400 * r + p) % 400 = p ∧ (r = 0 ∨ r = 1) ∧ 0 ≤ p ∧ p < 400 := by
  unfold bK inK at a
  omega
theorem pI_put {w v v' : Nat → Nat → Int} {k ur up r p l : Int} (hw : wOk w) (h : pI w v k ur up) (a : bK w r p) (lt : bcv v r p < l) (nn : 400 * r + p ≠ w 24 8) (hl : ∀ V, SB w V → l ≤ V r p) (lb : l ≤ 160000 + 100 * k) (hq : qI v') (h28 : ∀ j, (¬ v' 28 j = 0) ↔ (¬ v 28 j = 0 ∨ j = (400 * r + p).toNat)) (h7 : v' 24 7 ≤ v 24 7 + 1) (h26 : ∀ j, v' 26 j = if j = (400 * r + p).toNat then l else v 26 j) (hf : bF w v') : pI w v' k ur up := by
  obtain ⟨g1, g2, g3, g4, g5, g6, g7, g8, g9⟩ := h
  have nb := bK_n hw.1 a
  have val : ∀ s q, bK w s q → bcv v' s q = if s = r ∧ q = p then l else bcv v s q := by
    intro s q b
    have nb' := bK_n hw.1 b
    unfold bcv
    rw [h26]
    by_cases e : s = r ∧ q = p
    · rw [if_pos e, if_pos (by rw [e.1, e.2])]
    · rw [if_neg e, if_neg (by omega)]
  refine ⟨hf, hq, fun u u0 u1 z => ?_, fun V hV s q b => ?_, fun s q s' q' x b b' e => ?_, fun u u0 u1 z => ?_, ?_, fun s q b => ?_, ?_⟩
  · rcases (h28 _).mp z with y | y
    · exact g3 u u0 u1 y
    · have : u = 400 * r + p := by omega
      rw [this, nb.2.1, nb.2.2.1]; exact a
  · rw [val s q b]
    split
    · rename_i e; rw [e.1, e.2]; exact hl V hV
    · exact g4 V hV s q b
  · rw [val s q b, val s' q' b']
    by_cases e1 : s = r ∧ q = p
    · right; left
      rw [h28]; right; rw [e1.1, e1.2]
    · rw [if_neg e1]
      rcases g5 s q s' q' x b b' e with y | y | y
      · left
        split
        · rename_i e2; rw [e2.1, e2.2] at y; omega
        · exact y
      · right; left; rw [h28]; exact Or.inl y
      · exact Or.inr (Or.inr y)
  · rw [h26, if_neg (fun y => z (by rw [show u = 400 * r + p by omega, nb.2.1, nb.2.2.1]; exact a))]
    exact g6 u u0 u1 z
  · have e := sumA_put (f := v 26) (g := v' 26) (n := (400 * r + p).toNat) (fun j q => by rw [h26, if_neg q]) 800
    rw [if_pos (by omega), h26, if_pos rfl] at e
    unfold bcv at lt
    omega
  · rw [val s q b]
    have := g8 r p a
    split
    · omega
    · exact g8 s q b
  · rw [h26, if_neg (by have := hw.2.2.1; omega)]; exact g9
theorem pI_29 {w v : Nat → Nat → Int} {k ur up : Int} (h : pI w v k ur up) : v 29 = w 29 ∧ v 14 = w 14 ∧ (∀ r, v (rwA r + 1) = w (rwA r + 1)) ∧ v 24 8 = w 24 8 ∧ bcl v = bcl w := by
  have f := h.1
  have a : ∀ r, v (rwA r + 1) = w (rwA r + 1) := fun r => by
    have : rwA r = 16 ∨ rwA r = 20 := by unfold rwA; split <;> simp
    rcases this with e | e <;> rw [e] <;> exact funext fun j => f _ j (by decide) (by decide) (by decide) (by omega)
  refine ⟨funext fun j => f 29 j (by decide) (by decide) (by decide) (by omega), funext fun j => f 14 j (by decide) (by decide) (by decide) (by omega), a, f 24 8 (by decide) (by decide) (by decide) (by omega), ?_⟩
  unfold bcl
  funext r p
  rw [a]
theorem kn_iff {w : Nat → Nat → Int} {r p : Int} (h : r = 0 ∨ r = 1) : bK w r p ↔ (0 ≤ p ∧ p < w 29 r.toNat) := by
  unfold bK inK
  rcases h with e | e
  · subst e; rw [show (0 : Int).toNat = 0 from rfl]; omega
  · subst e; rw [show (1 : Int).toNat = 1 from rfl]; omega
theorem C_lift {G : ZG} {d : Nat} {w v : Nat → Nat → Int} {K : Option AV → AH → Prop} {rv : Nat → Nat → Option Nat} {k ur up x1 x2 x3 : Int} (hR : RC rv) (hw : wOk w) (h : pI w v k ur up) (h1 : x1 = 0 ∨ x1 = 1) (hl : bK w x1 x2 → (∀ V, SB w V → x3 ≤ V x1 x2) ∧ x3 ≤ 160000 + 100 * k) (hne : ¬ (x1 = ur ∧ x2 = up)) (hu : bK w ur up) (k1 : ∀ v', pI w v' k ur up → (∀ r p, bK w r p → bcv v r p ≤ bcv v' r p) → (bK w x1 x2 → x3 ≤ bcv v' x1 x2) → bcv v' ur up = bcv v ur up → K (some (vi 1)) (mkC v' rv)) (k0 : (¬ ∃ V, SB w V) → K (some (vi 0)) (mkC v rv)) : Z G mX0_lift (d + 1) 0 0 0 [vr (some 24), vi x1, vi x2, vi x3, vu] [] (mkC v rv) K := by
  obtain ⟨r29, -, -, r8, -⟩ := pI_29 h
  apply sX0_lift_0 hR
  rw [r29, r8, ← kn_iff h1]
  have sm : (bK w x1 x2 → x3 ≤ bcv v x1 x2) → K (some (vi 1)) (mkC v rv) := fun q => k1 v h (fun _ _ _ => Int.le_refl _) q rfl
  refine ⟨by omega, fun n => sm (fun b => absurd b n), fun b => ?_⟩
  have nb := bK_n hw.1 b
  have nu := bK_n hw.1 hu
  have q := h.2.1
  rw [Int.mul_comm x1 400]
  refine ⟨by omega, by omega, fun lt => ⟨by omega, by omega, fun nn => ⟨by omega, by omega, fun y => ?_, fun y => ?_⟩, fun e => k0 ?_⟩, fun ge => sm (fun _ => ge)⟩
  · refine k1 _ (pI_put hw h b lt nn (hl b).1 (hl b).2 ?_ ?_ ?_ (fun j => iu_i) ?_) (fun r p c => ?_) (fun _ => ?_) ?_
    · unfold qI qAt at *
      rw [iu_row (i := 24) (by decide), iu_row (i := 27) (by decide), iu_row (i := 28) (by decide)]; exact q
    · intro j
      rw [iu_row (i := 28) (by decide)]
      refine ⟨fun z => Or.inl z, fun z => z.elim id (fun e => by rw [e]; exact y)⟩
    · rw [iu_row (i := 24) (by decide)]; omega
    · intro i j a1 a2 a3 a4
      rw [iu_o a1]; exact h.1 i j a1 a2 a3 a4
    · unfold bcv at *
      rw [iu_i]
      split
      · rename_i e; rw [e]; omega
      · exact Int.le_refl _
    · unfold bcv; rw [iu_eq]; exact Int.le_refl _
    · unfold bcv; rw [iu_k (by omega)]
  · have q' : qI (iu v 26 (400 * x1 + x2).toNat x3) := by
      unfold qI qAt at *
      rw [iu_row (i := 24) (by decide), iu_row (i := 27) (by decide), iu_row (i := 28) (by decide)]; exact q
    have y' : iu v 26 (400 * x1 + x2).toNat x3 28 (400 * x1 + x2).toNat = 0 := by rw [iu_o (by decide)]; exact y
    have rm := qI_room q' nb.1 y'
    obtain ⟨e6, e7, e28, e27, er⟩ := enq_e (v := iu v 26 (400 * x1 + x2).toNat x3) (n := 400 * x1 + x2)
    have e26 : enq (iu v 26 (400 * x1 + x2).toNat x3) (400 * x1 + x2) 26 = iu v 26 (400 * x1 + x2).toNat x3 26 := er 26 (by decide) (by decide) (by decide)
    refine ⟨q'.1, ⟨q'.2.1, rm⟩, nb.1, k1 _ (pI_put hw h b lt nn (hl b).1 (hl b).2 (qI_enq q' nb.1 y') ?_ ?_ (fun j => by rw [e26, iu_i]) ?_) (fun r p c => ?_) (fun _ => ?_) ?_⟩
    · intro j
      rw [e28, iu_row (i := 28) (by decide)]
      by_cases e : j = (400 * x1 + x2).toNat
      · rw [if_pos e]; exact ⟨fun _ => Or.inr e, fun _ => by decide⟩
      · rw [if_neg e]; exact ⟨fun z => Or.inl z, fun z => z.resolve_right e⟩
    · rw [e7, iu_row (i := 24) (by decide)]; exact Int.le_refl _
    · intro i j a1 a2 a3 a4
      by_cases e : i = 24
      · subst e
        unfold enq
        rw [iu_k (by omega), iu_o (by decide), iu_o (by decide), iu_o (by decide)]
        exact h.1 24 j a1 a2 a3 a4
      · rw [er i e a2 a3, iu_o a1]; exact h.1 i j a1 a2 a3 a4
    · unfold bcv at *
      rw [e26, iu_i]
      split
      · rename_i e; rw [e]; omega
      · exact Int.le_refl _
    · unfold bcv; rw [e26, iu_eq]; exact Int.le_refl _
    · unfold bcv; rw [e26, iu_k (by omega)]
  · rintro ⟨V, hV⟩
    obtain ⟨W, hW, eW, -⟩ := hw.2.2.2 V hV
    have a1 := (hl b).1 W hW
    have a2 := h.2.2.2.2.2.2.2.2
    rw [← e, nb.2.1, nb.2.2.1] at eW
    rw [← e] at a2
    omega

