/-! ===== pushing, with what else it does ===== -/
theorem M_push2 {G : ZG} {d : Nat} {iv : Nat → Nat → Int} {K : Option AV → AH → Prop} {x1 M : Int} (h1 : 0 ≤ x1 ∧ x1 ≤ 1) (h2 : 0 ≤ iv 7 x1.toNat ∧ iv 7 x1.toNat ≤ 400) (h3 : (1 ≤ iv 0 5 ∧ iv 0 5 ≤ 20) ∧ (1 ≤ iv 0 6 ∧ iv 0 6 ≤ 20)) (h4 : ∀ k : Int, 0 ≤ k → k < iv 7 x1.toNat → 0 ≤ iv 8 (400 * x1 + k).toNat ∧ iv 8 (400 * x1 + k).toNat ≤ 40) (hM : M ≤ 1000000000) (h5 : ∀ k : Int, 0 ≤ k → k < iv 7 x1.toNat → 0 ≤ iv 15 (400 * x1 + k).toNat ∧ iv 15 (400 * x1 + k).toNat ≤ M)
    (k : ∀ iv', Rz iv iv' (SideC iv x1) (SideC iv x1) → (∀ k : Int, 0 ≤ k → k < iv 7 x1.toNat → iv' 15 (400 * x1 + k).toNat ≤ M + 40000) → (∀ q : Int, 0 ≤ q → q < iv 7 x1.toNat → iv 15 (400 * x1 + q).toNat ≤ iv' 15 (400 * x1 + (iv 7 x1.toNat - 1)).toNat) → (∀ j : Nat, ¬ (400 * x1 ≤ j ∧ (j : Int) < 400 * x1 + iv 7 x1.toNat) → iv' 15 j = iv 15 j) → K none (mkM iv')) : Z G mX12_push (d + 1) 0 0 0 [vr (some 0), vi x1, vu] [] (mkM iv) K := by
  apply sX12_push_0
  have f7 : ∀ {iv' Sd}, Rz iv iv' (SideC iv x1) Sd → iv' 7 = iv 7 ∧ iv' 8 = iv 8 ∧ iv' 0 5 = iv 0 5 ∧ iv' 0 6 = iv 0 6 := fun h => ⟨funext fun j => h.1 7 j (by decide) (by omega), funext fun j => h.1 8 j (by decide) (by omega), h.1 0 5 (by decide) (by omega), h.1 0 6 (by decide) (by omega)⟩
  refine lp_up (P := fun k iv' => Z G mX12_push (d + 1) 0 0 2 [vr (some 0), vi x1, vi k] [] (mkM iv') K) (iv 7 x1.toNat) (fun n iv' => 0 ≤ n ∧ Rz iv iv' (SideC iv x1) (SideF iv x1 n) ∧ (∀ q : Int, 0 ≤ q → q < n → iv 15 (400 * x1 + q).toNat ≤ iv' 15 (400 * x1 + (n - 1)).toNat) ∧ (∀ j : Nat, ¬ (400 * x1 ≤ j ∧ (j : Int) < 400 * x1 + iv 7 x1.toNat) → iv' 15 j = iv 15 j) ∧ ∀ k : Int, 0 ≤ k → k < iv 7 x1.toNat → (iv' 15 (400 * x1 + k).toNat ≤ M + 100 * n)) ?_ ?_ 0 iv (by omega) ⟨by omega, Rz.rf.done (fun a i w h => by obtain ⟨k, h, -⟩ := h; omega), fun q a b => by omega, fun _ _ => rfl, fun k a b => by have := h5 k a b; omega⟩
  · rintro iv' ⟨-, hz, hu, hv, hb⟩
    obtain ⟨e7, e8, e5, e6⟩ := f7 hz
    apply sX12_push_2
    rw [e7]
    refine ⟨by omega, fun _ => ⟨by omega, by omega, ?_⟩, fun h => by omega⟩
    -- the way back
    by_cases hn0 : iv 7 x1.toNat = 0
    · apply sX12_push_110
      refine ⟨fun _ => ?_, fun h => by omega⟩
      refine k iv' (hz.done (fun a i w h => ?_)) (fun k a b => by have := hb k a b; omega) hu hv
      obtain ⟨q, h, -⟩ := h
      omega
    refine lp_dn (P := fun k iv' => Z G mX12_push (d + 1) 0 0 110 [vr (some 0), vi x1, vi k] [] (mkM iv') K) 0 (fun n iv' => n < iv 7 x1.toNat ∧ Rz iv iv' (SideC iv x1) (fun a i w => SideF iv x1 (iv 7 x1.toNat) a i w ∨ SideB iv x1 n a i w) ∧ (∀ q : Int, 0 ≤ q → q < iv 7 x1.toNat → iv 15 (400 * x1 + q).toNat ≤ iv' 15 (400 * x1 + (iv 7 x1.toNat - 1)).toNat) ∧ (∀ j : Nat, ¬ (400 * x1 ≤ j ∧ (j : Int) < 400 * x1 + iv 7 x1.toNat) → iv' 15 j = iv 15 j) ∧ ∀ k : Int, 0 ≤ k → k < iv 7 x1.toNat → iv' 15 (400 * x1 + k).toNat ≤ M + 40000) ?_ ?_ (iv 7 x1.toNat - 1) iv' (by omega) ⟨by omega, hz.done (fun a i w h => h.elim id (fun h => by obtain ⟨q, h, -⟩ := h; omega)), hu, hv, fun k a b => by have := hb k a b; omega⟩
    · rintro iv2 ⟨-, hz, hu, hv, hb⟩
      apply sX12_push_110
      refine ⟨fun _ => k iv2 (hz.done (fun a i w h => ?_)) hb hu hv, fun h => by omega⟩
      obtain ⟨q, hq, h | h | h⟩ := h
      · exact Or.inl ⟨q, hq, Or.inl h⟩
      · exact Or.inl ⟨q, hq, Or.inr h⟩
      · exact Or.inr ⟨q, by omega, h⟩
    · rintro n iv2 hn ⟨hn1, hz, hu, hv, hb⟩ ih
      obtain ⟨e7, e8, e5, e6⟩ := f7 hz
      apply sX12_push_110
      rw [e6]
      have a1 := hb n (by omega) (by omega)
      have a2 := hz.2.2.1 (400 * x1 + n).toNat
      have a3 := h5 n (by omega) (by omega)
      refine ⟨fun h => by omega, fun _ => ⟨by omega, by omega, by omega, by omega, by omega, by omega, by omega, ?_⟩⟩
      rw [show n + -1 = n - 1 by omega]
      refine ih _ ⟨by omega, (hz.step (a := (400 * x1 + n).toNat) (w := - iv 0 6) (by omega) ⟨n, by omega, Or.inr (Or.inr ⟨rfl, rfl, rfl⟩)⟩).done (fun a i w h => ?_), fun q b1 b2 => by rw [mraise_15]; have := hu q b1 b2; split <;> omega, fun j c => by rw [mraise_15, if_neg (by omega)]; exact hv j c, fun q b1 b2 => ?_⟩
      · rcases h with h | ⟨q, hq, h⟩
        · exact Or.inl (Or.inl h)
        · by_cases e : q = n
          · rw [e] at h; exact Or.inr h
          · exact Or.inl (Or.inr ⟨q, by omega, h⟩)
      · rw [mraise_15]
        have := hb q b1 b2
        split <;> omega
  · rintro n iv' hn ⟨hn0, hz, hu, hv, hb⟩ ih
    obtain ⟨e7, e8, e5, e6⟩ := f7 hz
    -- the second raising
    have sec : ∀ iv2, Rz iv iv2 (SideC iv x1) (fun a i w => SideF iv x1 n a i w ∨ (1 ≤ n ∧ a = (400 * x1 + (n - 1)).toNat ∧ i = (400 * x1 + n).toNat ∧ w = 0)) → (∀ k : Int, 0 ≤ k → k < iv 7 x1.toNat → iv2 15 (400 * x1 + k).toNat ≤ M + 100 * n) → (∀ q : Int, 0 ≤ q → q < n + 1 → iv 15 (400 * x1 + q).toNat ≤ iv2 15 (400 * x1 + (n + 1 - 1)).toNat) → (∀ j : Nat, ¬ (400 * x1 ≤ j ∧ (j : Int) < 400 * x1 + iv 7 x1.toNat) → iv2 15 j = iv 15 j) → Z G mX12_push (d + 1) 0 0 37 [vr (some 0), vi x1, vi n] [] (mkM iv2) K := by
      intro iv2 hz hb hu hv
      obtain ⟨e7, e8, e5, e6⟩ := f7 hz
      apply sX12_push_37
      rw [e8, e5]
      have a1 := hb n (by omega) (by omega)
      have a2 := hz.2.2.1 (400 * x1 + n).toNat
      have a3 := h5 n (by omega) (by omega)
      have a4 := h4 n (by omega) (by omega)
      refine ⟨fun h => ⟨by omega, ih _ ⟨by omega, hz.done (fun a i w h => ?_), hu, hv, fun q b1 b2 => by have := hb q b1 b2; omega⟩⟩, fun h => ?_⟩
      · obtain ⟨q, hq, hh⟩ := h
        by_cases e : q = n
        · rw [e] at hh
          rcases hh with hh | hh
          · exact Or.inr ⟨by omega, hh⟩
          · omega
        · exact Or.inl ⟨q, by omega, hh⟩
      · have b1 := hb (n - 8) (by omega) (by omega)
        have b2 := hz.2.2.1 (400 * x1 + (n - 8)).toNat
        have b3 := h5 (n - 8) (by omega) (by omega)
        have b4 := h4 (n - 8) (by omega) (by omega)
        refine ⟨by omega, by omega, by omega, by omega, by omega, by omega, by omega, by omega, by omega, by omega, by omega, by omega, by omega, by omega, ?_⟩
        refine ih _ ⟨by omega, (hz.step (a := (400 * x1 + (n - 8)).toNat) (w := iv 8 (400 * x1 + n).toNat + iv 8 (400 * x1 + (n - 8)).toNat + iv 0 5) (by omega) ⟨n, by omega, Or.inr (Or.inl ⟨h, rfl, rfl, rfl⟩)⟩).done (fun a i w h => ?_), fun q b1 b2 => by rw [mraise_15]; have := hu q b1 b2; split <;> omega, fun j c => by rw [mraise_15, if_neg (by omega)]; exact hv j c, fun q c1 c2 => ?_⟩
        · obtain ⟨q, hq, hh⟩ := h
          by_cases e : q = n
          · rw [e] at hh
            rcases hh with hh | hh
            · exact Or.inl (Or.inr ⟨by omega, hh⟩)
            · exact Or.inr ⟨hh.2.1, hh.2.2.1, hh.2.2.2⟩
          · exact Or.inl (Or.inl ⟨q, by omega, hh⟩)
        · rw [mraise_15]
          have := hb q c1 c2
          split <;> omega
    apply sX12_push_2
    rw [e7]
    refine ⟨by omega, fun h => by omega, fun _ => ⟨fun h => sec iv' (hz.done (fun a i w h => h.elim id (fun h => by omega))) hb (fun q q0 q1 => by rw [show q = 0 by omega, show n + 1 - 1 = 0 by omega]; exact hz.2.2.1 _) hv, fun h => ?_⟩⟩
    have b1 := hb (n - 1) (by omega) (by omega)
    refine ⟨by omega, by omega, by omega, by omega, by omega, sec _ ((hz.step (a := (400 * x1 + (n - 1)).toNat) (w := 0) (by omega) ⟨n, by omega, Or.inl ⟨rfl, rfl, rfl⟩⟩).done (fun a i w h => ?_)) (fun q c1 c2 => ?_) (fun q q0 q1 => ?_) (fun j c => by rw [mraise_15, if_neg (by omega)]; exact hv j c)⟩
    · rcases h with h | h
      · exact Or.inl h
      · exact Or.inr h.2
    · rw [mraise_15]
      have := hb q c1 c2
      split <;> omega
    · rw [show n + 1 - 1 = n by omega, mraise_15, if_pos rfl]
      by_cases e : q = n
      · rw [e]; have := hz.2.2.1 (400 * x1 + n).toNat; omega
      · have := hu q q0 (by omega); omega

