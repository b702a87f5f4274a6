/-! ===== beside: the model's loop ===== -/
def mBd (v : Nat → Nat → Int) (iv : Nat → Nat → Int) (b0 b1 : Int) : Prop := (∀ k : Int, 0 ≤ k → k < iv 7 0 → v 15 (400 * 0 + k).toNat ≤ b0) ∧ (∀ k : Int, 0 ≤ k → k < iv 7 1 → v 15 (400 * 1 + k).toNat ≤ b1)
def mLw (iv v : Nat → Nat → Int) : Prop := (∀ q : Int, 0 ≤ q → q < iv 7 0 → iv 15 (400 * 0 + q).toNat ≤ v 15 (400 * 0 + (iv 7 0 - 1)).toNat) ∧ (∀ q : Int, 0 ≤ q → q < iv 7 1 → iv 15 (400 * 1 + q).toNat ≤ v 15 (400 * 1 + (iv 7 1 - 1)).toNat)
def mFr (iv v : Nat → Nat → Int) : Prop := ∀ j : Nat, ¬ mK iv j → v 15 j = iv 15 j
theorem mBd_r {v iv : Nat → Nat → Int} {b0 b1 b0' b1' : Int} {i : Int} {x : Int} (h : mBd v iv b0 b1) (h0 : b0 ≤ b0') (h1 : b1 ≤ b1') (hx : x ≤ b0' ∧ x ≤ b1') : mBd (mraise v i x) iv b0' b1' := by
  refine ⟨fun k a b => ?_, fun k a b => ?_⟩
  · rw [mraise_15]; have := h.1 k a b; split <;> omega
  · rw [mraise_15]; have := h.2 k a b; split <;> omega
theorem mLw_r {v iv : Nat → Nat → Int} {i : Int} {x : Int} (h : mLw iv v) : mLw iv (mraise v i x) := by
  refine ⟨fun k a b => ?_, fun k a b => ?_⟩
  · rw [mraise_15]; have := h.1 k a b; split <;> omega
  · rw [mraise_15]; have := h.2 k a b; split <;> omega
theorem mFr_r {v iv : Nat → Nat → Int} {i : Int} {x : Int} (h : mFr iv v) (hi : mK iv i.toNat) : mFr iv (mraise v i x) := by
  intro j n
  rw [mraise_15, if_neg (fun e => n (by rw [e]; exact hi))]
  exact h j n
theorem M_bIter {G : ZG} {d : Nat} {iv : Nat → Nat → Int} {K : Option AV → AH → Prop} {M : Int} (hs0 : okSide iv 0) (hs1 : okSide iv 1) (hM : 0 ≤ M ∧ M ≤ 2000000) (hp : ∀ j : Nat, j < 800 → 0 ≤ iv 15 j ∧ iv 15 j ≤ M) (k : ∀ v, Rz iv v (BCA iv) (BCA iv) → mBd v iv (M + 40200) (M + 40100) → mLw iv v → mFr iv v → Z G mX12_besides (d + 2) 0 0 229 [vr (some 0), vi 0] [] (mkM v) K) : Z G mX12_push (d + 1) 0 0 0 [vr (some 0), vi 0, vu] [] (mkM iv) (fun r A1 => Z G mX12_besides (d + 2) 0 0 64 [vr (some 0), vu] (r.toList ++ []) A1 K) := by
  have n0 : 0 ≤ iv 7 0 ∧ iv 7 0 ≤ 400 := hs0.2.1
  have n1 : 0 ≤ iv 7 1 ∧ iv 7 1 ≤ 400 := hs1.2.1
  have rul := hs0.2.2.1
  have c0 : ∀ k : Int, 0 ≤ k → k < iv 7 0 → 0 ≤ iv 8 (400 * 0 + k).toNat ∧ iv 8 (400 * 0 + k).toNat ≤ 40 := hs0.2.2.2
  have c1 : ∀ k : Int, 0 ≤ k → k < iv 7 1 → 0 ≤ iv 8 (400 * 1 + k).toNat ∧ iv 8 (400 * 1 + k).toNat ≤ 40 := hs1.2.2.2
  have fr : ∀ {v Sa Sd}, Rz iv v Sa Sd → v 7 = iv 7 ∧ v 8 = iv 8 ∧ v 0 5 = iv 0 5 ∧ v 0 6 = iv 0 6 := fun h => ⟨funext fun j => h.1 7 j (by decide) (by omega), funext fun j => h.1 8 j (by decide) (by omega), h.1 0 5 (by decide) (by omega), h.1 0 6 (by decide) (by omega)⟩
  have hq0 : ∀ k : Int, 0 ≤ k → k < iv 7 (0 : Int).toNat → 0 ≤ iv 15 (400 * 0 + k).toNat ∧ iv 15 (400 * 0 + k).toNat ≤ M := fun k a b => hp _ (by have b : k < iv 7 0 := b; omega)
  refine M_push2 (M := M) (x1 := 0) ⟨by omega, by omega⟩ n0 rul c0 (by omega) hq0 ?_
  intro v1 z1 b1 l1 f1
  obtain ⟨e7, e8, e5, e6⟩ := fr z1
  apply sX12_besides_64
  have zt : (0 : Int).toNat = 0 := rfl
  have ot : (1 : Int).toNat = 1 := rfl
  have old1 : ∀ k : Int, 0 ≤ k → k < iv 7 1 → v1 15 (400 * 1 + k).toNat = iv 15 (400 * 1 + k).toNat := fun k a b => f1 _ (by rw [zt]; omega)
  refine M_push2 (M := M) (x1 := 1) ⟨by omega, by omega⟩ (by rw [e7]; exact n1) (by rw [e5, e6]; exact rul) (by rw [e7, e8]; exact c1) (by omega) (fun k a b => by
    rw [e7] at b
    have b : k < iv 7 1 := b
    rw [old1 k a b]
    exact hp _ (by omega)) ?_
  intro v2 z2 b2 l2 f2
  rw [e7] at b2 l2 f2
  rw [ot] at b2 l2 f2
  rw [zt] at b1 l1 f1
  have SC1 : ∀ a i w, SideC v1 1 a i w ↔ SideC iv 1 a i w := by intro a i w; unfold SideC; rw [e7, e8, e5, e6]
  have z12 : Rz iv v2 (BCA iv) (fun a i w => SideC iv 0 a i w ∨ SideC v1 1 a i w) := Rz.trans (z1.all (fun a i w c => Or.inl c)) (z2.all (fun a i w c => Or.inr (Or.inl ((SC1 a i w).mp c))))
  have bd2 : mBd v2 iv (M + 40000) (M + 40000) := by
    refine ⟨fun k a b => ?_, fun k a b => b2 k a b⟩
    rw [f2 _ (by omega)]; exact b1 k a b
  have lw2 : mLw iv v2 := by
    refine ⟨fun q a b => ?_, fun q a b => ?_⟩
    · rw [f2 _ (by omega)]; exact l1 q a b
    · have := l2 q a b; rw [old1 q a b] at this; exact this
  have fr2 : mFr iv v2 := by
    intro j n
    unfold mK at n
    rw [f2 j (by omega), f1 j (by omega)]
  apply sX12_besides_69
  -- across, to row 1
  refine lp_up (P := fun x v => Z G mX12_besides (d + 2) 0 0 71 [vr (some 0), vi x] [] (mkM v) K) (iv 7 1) (fun x v => 0 ≤ x ∧ Rz iv v (BCA iv) (fun a i w => SideC iv 0 a i w ∨ SideC iv 1 a i w ∨ C4 iv x a i w) ∧ mBd v iv (M + 40000) (M + 40100) ∧ mLw iv v ∧ mFr iv v) ?_ ?_ 0 v2 n1.1 ⟨by omega, z12.done (fun a i w c => by
    rcases c with c | c | c
    · exact Or.inl c
    · exact Or.inr ((SC1 a i w).mpr c)
    · obtain ⟨q, hq, -⟩ := c; omega), ⟨bd2.1, fun k a b => by have := bd2.2 k a b; omega⟩, lw2, fr2⟩
  · rintro v ⟨-, z, bd, lw, f⟩
    obtain ⟨e7, e8, e5, e6⟩ := fr z
    apply sX12_besides_71
    rw [e7]
    refine ⟨fun _ => ?_, fun y => by omega⟩
    have fin : ∀ v, Rz iv v (BCA iv) (fun a i w => SideC iv 0 a i w ∨ SideC iv 1 a i w ∨ C4 iv (iv 7 1) a i w ∨ C5 iv (iv 7 0) a i w) → mBd v iv (M + 40200) (M + 40100) → mLw iv v → mFr iv v → Z G mX12_besides (d + 2) 0 0 229 [vr (some 0), vi 0] [] (mkM v) K := fun v z bd lw f => k v z bd lw f
    by_cases g8 : iv 7 0 ≤ 8
    · apply sX12_besides_146
      rw [e7]
      refine ⟨fun _ => fin v (z.done (fun a i w c => ?_)) ⟨fun k a b => by have := bd.1 k a b; omega, bd.2⟩ lw f, fun y => by omega⟩
      rcases c with c | c | c | c
      · exact Or.inl c
      · exact Or.inr (Or.inl c)
      · exact Or.inr (Or.inr c)
      · obtain ⟨q, hq, -⟩ := c; omega
    refine lp_up (P := fun x v => Z G mX12_besides (d + 2) 0 0 146 [vr (some 0), vi x] [] (mkM v) K) (iv 7 0) (fun x v => 8 ≤ x ∧ Rz iv v (BCA iv) (fun a i w => SideC iv 0 a i w ∨ SideC iv 1 a i w ∨ C4 iv (iv 7 1) a i w ∨ C5 iv x a i w) ∧ mBd v iv (M + 40200) (M + 40100) ∧ mLw iv v ∧ mFr iv v) ?_ ?_ 8 v (by omega) ⟨by omega, z.done (fun a i w c => by
      rcases c with c | c | c | c
      · exact Or.inl c
      · exact Or.inr (Or.inl c)
      · exact Or.inr (Or.inr c)
      · obtain ⟨q, hq, -⟩ := c; omega), ⟨fun k a b => by have := bd.1 k a b; omega, bd.2⟩, lw, f⟩
    · rintro v ⟨-, z, bd, lw, f⟩
      obtain ⟨e7, e8, e5, e6⟩ := fr z
      apply sX12_besides_146
      rw [e7]
      exact ⟨fun _ => fin v z bd lw f, fun y => by omega⟩
    · rintro x v hx ⟨x8, z, bd, lw, f⟩ ih
      obtain ⟨e7, e8, e5, e6⟩ := fr z
      apply sX12_besides_146
      rw [e7, e8, e5]
      refine ⟨fun y => by omega, fun _ => ⟨by omega, fun g => ⟨by omega, ih v ⟨by omega, z.done (fun a i w c => ?_), bd, lw, f⟩⟩, fun g => ?_⟩⟩
      · rcases c with c | c | c | ⟨q, hq, c⟩
        · exact Or.inl c
        · exact Or.inr (Or.inl c)
        · exact Or.inr (Or.inr (Or.inl c))
        · exact Or.inr (Or.inr (Or.inr ⟨q, by omega, c⟩))
      · have p1 := bd.2 (x - 8) (by omega) g
        have p2 := z.2.2.1 (400 * 1 + (x - 8)).toNat
        have p3 := hp (400 * 1 + (x - 8)).toNat (by omega)
        have k1 := c1 (x - 8) (by omega) g
        have k2 := c0 x (by omega) hx
        refine ⟨by omega, by omega, by omega, by omega, by omega, by omega, by omega, by omega, by omega, by omega, by omega, by omega, by omega, by omega, ?_⟩
        refine ih _ ⟨by omega, (z.step (a := (400 * 1 + (x - 8)).toNat) (w := iv 8 (400 * 1 + (x - 8)).toNat + iv 8 (400 * 0 + x).toNat + iv 0 5) (by omega) (Or.inr (Or.inr (Or.inr ⟨x, by omega, rfl, rfl, rfl⟩)))).done (fun a i w c => ?_), ?_, mLw_r lw, mFr_r f (by unfold mK; omega)⟩
        · rcases c with c | c | c | ⟨q, hq, c⟩
          · exact Or.inl (Or.inl c)
          · exact Or.inl (Or.inr (Or.inl c))
          · exact Or.inl (Or.inr (Or.inr (Or.inl c)))
          · by_cases e : q = x
            · rw [e] at c; exact Or.inr c
            · exact Or.inl (Or.inr (Or.inr (Or.inr ⟨q, by omega, c⟩)))
        · refine ⟨fun k a b => ?_, fun k a b => ?_⟩
          · rw [mraise_15]; have := bd.1 k a b; split <;> omega
          · rw [mraise_15, if_neg (by omega)]; exact bd.2 k a b
  · rintro x v hx ⟨x0, z, bd, lw, f⟩ ih
    obtain ⟨e7, e8, e5, e6⟩ := fr z
    apply sX12_besides_71
    rw [e7, e8, e5]
    refine ⟨fun y => by omega, fun _ => ⟨fun g => ⟨by omega, ih v ⟨by omega, z.done (fun a i w c => ?_), bd, lw, f⟩⟩, fun g => ?_⟩⟩
    · rcases c with c | c | ⟨q, hq, c⟩
      · exact Or.inl c
      · exact Or.inr (Or.inl c)
      · exact Or.inr (Or.inr ⟨q, by omega, c⟩)
    · have p1 := bd.1 x x0 g
      have p2 := z.2.2.1 (400 * 0 + x).toNat
      have p3 := hp (400 * 0 + x).toNat (by omega)
      have k1 := c1 x x0 hx
      have k2 := c0 x x0 g
      refine ⟨by omega, by omega, by omega, by omega, by omega, by omega, by omega, by omega, by omega, by omega, by omega, by omega, ?_⟩
      refine ih _ ⟨by omega, (z.step (a := (400 * 0 + x).toNat) (w := iv 8 (400 * 0 + x).toNat + iv 8 (400 * 1 + x).toNat + iv 0 5) (by omega) (Or.inr (Or.inr (Or.inl ⟨x, by omega, rfl, rfl, rfl⟩)))).done (fun a i w c => ?_), ?_, mLw_r lw, mFr_r f (by unfold mK; omega)⟩
      · rcases c with c | c | ⟨q, hq, c⟩
        · exact Or.inl (Or.inl c)
        · exact Or.inl (Or.inr (Or.inl c))
        · by_cases e : q = x
          · rw [e] at c; exact Or.inr c
          · exact Or.inl (Or.inr (Or.inr ⟨q, by omega, c⟩))
      · refine ⟨fun k a b => ?_, fun k a b => ?_⟩
        · rw [mraise_15, if_neg (by omega)]; exact bd.1 k a b
        · rw [mraise_15]; have := bd.2 k a b; split <;> omega

