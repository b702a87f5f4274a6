/-! ===== clicks wiped away, and put ===== -/
theorem M_cleanL {G : ZG} {d : Nat} {iv : Nat → Nat → Int} {K : Option AV → AH → Prop} (h : ckM iv) (k : ∀ v : Nat → Nat → Int, (∀ i, i ≠ 20 → v i = iv i) → (∀ t p : Int, (0 ≤ t ∧ t < 100) → (0 ≤ p ∧ p < 8) → v 20 (8 * t + p).toNat = 0) → K (some (vi 1)) (mkM (iu (iu v 0 30 0) 0 0 0))) : Z G mX12_clean (d + 1) 0 0 0 [vr (some 0), vu] [] (mkM iv) K := by
  obtain ⟨hn, hr, hc⟩ := h
  apply sX12_clean_0
  refine lp_up (P := fun j v => Z G mX12_clean (d + 1) 0 0 2 [vr (some 0), vi j] [] (mkM v) K) (iv 0 30) (fun j v => 0 ≤ j ∧ (∀ i, i ≠ 20 → v i = iv i) ∧ (∀ t p : Int, (0 ≤ t ∧ t < 100) → (0 ≤ p ∧ p < 8) → (∀ q : Int, j ≤ q → q < iv 0 30 → ¬ (iv 21 q.toNat = t ∧ iv 22 q.toNat = p)) → v 20 (8 * t + p).toNat = 0)) ?_ ?_ 0 iv hn.1 ⟨by omega, fun _ _ => rfl, fun t p a b c => ?_⟩
  · rintro v ⟨-, f1, f2⟩
    apply sX12_clean_2
    rw [f1 0 (by decide)]
    exact ⟨fun _ => k v f1 (fun t p a b => f2 t p a b (fun q x y => by omega)), fun z => by omega⟩
  · rintro j v hj ⟨j0, f1, f2⟩ ih
    apply sX12_clean_2
    rw [f1 0 (by decide), f1 21 (by decide), f1 22 (by decide)]
    have r := hr j j0 hj
    refine ⟨fun z => by omega, fun _ => ⟨by omega, by omega, by omega, by omega, by omega, by omega, ih _ ⟨by omega, fun i hi => ?_, fun t p a b c => ?_⟩⟩⟩
    · rw [← f1 i hi]; funext q; exact iu_o hi
    · by_cases e : iv 21 j.toNat = t ∧ iv 22 j.toNat = p
      · rw [e.1, e.2, iu_eq]
      · rw [iu_k (by omega)]
        refine f2 t p a b (fun q x y => ?_)
        by_cases eq : q = j
        · subst eq; exact e
        · exact c q (by omega) y
  · refine (hc t p a b).mpr ?_
    unfold ckA
    rw [ffirst_none _ _ (by omega)]
    intro q x y
    exact c q x (by omega)
/-- one more click -/
theorem ckA_add {f g : Nat → Int} {n t p t' p' : Int} (hn : 0 ≤ n) : ckA (fun j => if j = n.toNat then t else f j) (fun j => if j = n.toNat then p else g j) (n + 1) t' p' = if ckA f g n t' p' = -1 then (if t = t' ∧ p = p' then n else -1) else ckA f g n t' p' := by
  unfold ckA
  rw [show (n + 1).toNat = n.toNat + 1 by omega, ffirst_snoc _ _ (by omega)]
  have c : ffirst (fun k : Int => (if k.toNat = n.toNat then t else f k.toNat) = t' ∧ (if k.toNat = n.toNat then p else g k.toNat) = p') 0 n.toNat = ffirst (fun k : Int => f k.toNat = t' ∧ g k.toNat = p') 0 n.toNat := by
    refine ffirst_congr _ _ (fun k a b => ?_)
    rw [if_neg (by omega), if_neg (by omega)]
  rw [c, show (0 : Int) + (n.toNat : Nat) = n by omega]
  simp only [if_true]
theorem ckM_add {iv : Nat → Nat → Int} {t p x : Int} (h : ckM iv) (hn : iv 0 30 < 16) (ht : 0 ≤ t ∧ t < 100) (hp : 0 ≤ p ∧ p < 8) : ckM (iu (iu (iu (iu (iu iv 20 (8 * t + p).toNat 1) 21 (iv 0 30).toNat t) 22 (iv 0 30).toNat p) 0 30 (iv 0 30 + 1)) 0 0 x) := by
  obtain ⟨hn0, hr, hc⟩ := h
  have e30 : (iu (iu (iu (iu (iu iv 20 (8 * t + p).toNat 1) 21 (iv 0 30).toNat t) 22 (iv 0 30).toNat p) 0 30 (iv 0 30 + 1)) 0 0 x) 0 30 = iv 0 30 + 1 := by rw [iu_k (by decide), iu_eq]
  have e21 : (iu (iu (iu (iu (iu iv 20 (8 * t + p).toNat 1) 21 (iv 0 30).toNat t) 22 (iv 0 30).toNat p) 0 30 (iv 0 30 + 1)) 0 0 x) 21 = fun j => if j = (iv 0 30).toNat then t else iv 21 j := by
    funext j
    rw [iu_o (by decide), iu_o (by decide), iu_o (by decide), iu_i, iu_o (by decide)]
  have e22 : (iu (iu (iu (iu (iu iv 20 (8 * t + p).toNat 1) 21 (iv 0 30).toNat t) 22 (iv 0 30).toNat p) 0 30 (iv 0 30 + 1)) 0 0 x) 22 = fun j => if j = (iv 0 30).toNat then p else iv 22 j := by
    funext j
    rw [iu_o (by decide), iu_o (by decide), iu_i, iu_o (by decide), iu_o (by decide)]
  have e20 : (iu (iu (iu (iu (iu iv 20 (8 * t + p).toNat 1) 21 (iv 0 30).toNat t) 22 (iv 0 30).toNat p) 0 30 (iv 0 30 + 1)) 0 0 x) 20 = fun j => if j = (8 * t + p).toNat then 1 else iv 20 j := by
    funext j
    rw [iu_o (by decide), iu_o (by decide), iu_o (by decide), iu_o (by decide), iu_i]
  unfold ckM
  rw [e30, e21, e22, e20]
  refine ⟨by omega, fun k a b => ?_, fun t' p' a b => ?_⟩
  · dsimp only
    by_cases e : k = iv 0 30
    · rw [if_pos (by omega), if_pos (by omega)]; exact ⟨ht, hp⟩
    · rw [if_neg (by omega), if_neg (by omega)]; exact hr k a (by omega)
  · rw [ckA_add hn0.1]
    dsimp only
    by_cases e : t = t' ∧ p = p'
    · rw [if_pos (show (8 * t' + p').toNat = (8 * t + p).toNat by omega)]
      constructor
      · intro z; exact absurd z (by decide)
      · intro z
        split at z
        · first | omega | (rw [if_pos e] at z; omega)
        · rename_i q; exact absurd z q
    · rw [if_neg (show ¬ (8 * t' + p').toNat = (8 * t + p).toNat by omega), hc t' p' a b]
      constructor
      · intro z; rw [if_pos z, if_neg e]
      · intro z
        split at z
        · rename_i q; exact q
        · exact z

