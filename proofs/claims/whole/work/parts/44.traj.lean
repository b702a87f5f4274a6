/-! ===== the way of the needle ===== -/
def knI (f : Nat → Int) (m t : Int) : Int := ffirst (fun k => f k.toNat = t) 0 m.toNat
/-- the push at a tick, or 1000 -/
def knv (f g : Nat → Int) (m t : Int) : Int := if knI f m t = -1 then 1000 else g (knI f m t).toNat
def bh (n lb p : Int) : Int := if p = -1 then -1 else if p + 1 < alN n lb then p + 1 else if lb = -1 then -1 else n
noncomputable def pT (n lb rg : Int) (pl kn : Int → Int) : Nat → Int
  | 0 => if n = 0 then -1 else 0
  | t + 1 => bh n lb (if pT n lb rg pl kn t ≠ -1 ∧ kn t ≠ 1000 then fl n lb rg pl (pT n lb rg pl kn t) (kn t) else pT n lb rg pl kn t)
def ah (n lb p m : Int) : Int := if p + m < n then p + m else if lb = -1 then -1 else n + (p + m - n) % 8
def plB (n lb rg : Int) (pl kn : Int → Int) (t : Nat) (j : Int) : Prop := ∃ s : Nat, s < t ∧ pT n lb rg pl kn s = j
theorem fl_ex {n lb rg : Int} {pl : Int → Int} {part push : Int} (h : 0 ≤ part ∧ part < alN n lb) : isF n lb rg pl part push (fl n lb rg pl part push) := by
  have key : ∀ m : Nat, part % 8 + 8 * m < alN n lb → ∃ b : Int, (0 ≤ b ∧ b ≤ part % 8 + 8 * m ∧ b % 8 = part % 8) ∧ flI n rg pl (pO n rg pl part + push) (part % 8) (part % 8 + 8 * m + 8) b := by
    intro m
    induction m with
    | zero =>
      intro _
      refine ⟨part % 8, by omega, fun q a b c => ?_⟩
      have : q = part % 8 := by omega
      rw [this]
      exact ⟨Int.le_refl _, fun _ => Int.le_refl _⟩
    | succ m ih =>
      intro hm
      obtain ⟨b, hb, hI⟩ := ih (by omega)
      have e : part % 8 + 8 * ((m : Int) + 1) = part % 8 + 8 * m + 8 := by omega
      by_cases c : zabs (pO n rg pl (part % 8 + 8 * m + 8) - (pO n rg pl part + push)) < zabs (pO n rg pl b - (pO n rg pl part + push))
      · refine ⟨part % 8 + 8 * m + 8, by omega, ?_⟩
        rw [show part % 8 + 8 * ((m + 1 : Nat) : Int) + 8 = part % 8 + 8 * m + 8 + 8 by omega]
        exact flI_put hI (by omega) (Or.inl c)
      · refine ⟨b, by omega, ?_⟩
        rw [show part % 8 + 8 * ((m + 1 : Nat) : Int) + 8 = part % 8 + 8 * m + 8 + 8 by omega]
        exact flI_no hI (by omega) (by omega)
  obtain ⟨b, hb, hI⟩ := key ((alN n lb - 1 - part % 8) / 8).toNat (by omega)
  have : isF n lb rg pl part push b := ⟨by omega, fun p a c e => hI p a (by omega) e⟩
  rw [fl_is this]
  exact this
theorem pT_r {n lb rg : Int} {pl kn : Int → Int} (hn : 0 ≤ n) : ∀ t, pT n lb rg pl kn t = -1 ∨ (0 ≤ pT n lb rg pl kn t ∧ pT n lb rg pl kn t < alN n lb)
  | 0 => by
    unfold pT alN
    split
    · exact Or.inl rfl
    · right; split <;> omega
  | t + 1 => by
    have ih := pT_r (lb := lb) (rg := rg) (pl := pl) (kn := kn) hn t
    unfold pT
    generalize pT n lb rg pl kn t = p at ih
    have key : ∀ q : Int, (q = -1 ∨ (0 ≤ q ∧ q < alN n lb)) → bh n lb q = -1 ∨ (0 ≤ bh n lb q ∧ bh n lb q < alN n lb) := by
      intro q hq
      unfold bh
      by_cases z : q = -1
      · rw [if_pos z]; exact Or.inl rfl
      · rw [if_neg z]
        by_cases y : q + 1 < alN n lb
        · rw [if_pos y]; right; omega
        · rw [if_neg y]
          by_cases c : lb = -1
          · rw [if_pos c]; exact Or.inl rfl
          · rw [if_neg c]; right; unfold alN; rw [if_neg c]; omega
    apply key
    split
    · rename_i c
      have := (fl_ex (rg := rg) (pl := pl) (push := kn t) (ih.resolve_left c.1)).1
      exact Or.inr ⟨this.1, this.2.1⟩
    · exact ih
theorem pT_m1 {n lb rg : Int} {pl kn : Int → Int} {t : Nat} (h : pT n lb rg pl kn t = -1) : ∀ m, pT n lb rg pl kn (t + m) = -1
  | 0 => h
  | m + 1 => by
    have ih := pT_m1 h m
    show bh n lb (if pT n lb rg pl kn (t + m) ≠ -1 ∧ _ then _ else pT n lb rg pl kn (t + m)) = -1
    rw [if_neg (fun c => c.1 ih), ih]
    rfl
theorem ah_0 {n lb p : Int} (h : 0 ≤ p ∧ p < alN n lb) : ah n lb p 0 = p := by
  unfold ah alN at *
  split
  · omega
  · split
    · rename_i a b; rw [if_pos b] at h; omega
    · rename_i a b; rw [if_neg b] at h; omega
theorem ah_s {n lb p m : Int} (hn : 0 ≤ n) (hp : 0 ≤ p) (hm : 0 ≤ m) : bh n lb (ah n lb p m) = ah n lb p (m + 1) := by
  unfold ah bh alN
  by_cases c : lb = -1
  · simp only [if_pos c]
    by_cases g : p + m < n
    · rw [if_pos g, if_neg (by omega)]
      by_cases k : p + m + 1 < n
      · rw [if_pos k, if_pos (by omega)]; omega
      · rw [if_neg k, if_neg (by omega)]
    · rw [if_neg g, if_pos rfl, if_neg (by omega)]
  · simp only [if_neg c]
    by_cases g : p + m < n
    · rw [if_pos g, if_neg (by omega), if_pos (by omega)]
      by_cases k : p + m + 1 < n
      · rw [if_pos (by omega)]; omega
      · rw [if_neg (by omega)]; omega
    · rw [if_neg g]
      rw [if_neg (show ¬ n + (p + m - n) % 8 = -1 by omega), if_neg (show ¬ p + (m + 1) < n by omega)]
      by_cases k : n + (p + m - n) % 8 + 1 < n + 8
      · rw [if_pos k]; omega
      · rw [if_neg k]; omega
theorem pT_on {n lb rg : Int} {pl kn : Int → Int} {t : Nat} (hn : 0 ≤ n) (h : 0 ≤ pT n lb rg pl kn t ∧ pT n lb rg pl kn t < alN n lb) : ∀ m : Nat, (∀ i : Int, (t : Int) ≤ i → i < t + m → kn i = 1000) → pT n lb rg pl kn (t + m) = ah n lb (pT n lb rg pl kn t) m
  | 0, _ => (ah_0 h).symm
  | m + 1, no => by
    have ih := pT_on hn h m (fun i a b => no i a (by omega))
    show bh n lb (if pT n lb rg pl kn (t + m) ≠ -1 ∧ kn ((t + m : Nat) : Int) ≠ 1000 then _ else pT n lb rg pl kn (t + m)) = _
    rw [if_neg (fun c => c.2 (no _ (by omega) (by omega))), ih, ah_s hn h.1 (by omega)]
    congr 1
theorem M_find {G : ZG} {d : Nat} {iv : Nat → Nat → Int} {K : Option AV → AH → Prop} {x1 : Int} (hn : 0 ≤ iv 0 37 ∧ iv 0 37 ≤ 16) (k : K (some (vi (knI (iv 25) (iv 0 37) x1))) (mkM iv)) : Z G mX12_find d 0 0 0 [vr (some 0), vi x1, vu] [] (mkM iv) K := by
  apply sX12_find_0
  unfold knI at k
  refine lp_up (P := fun j (_ : Unit) => Z G mX12_find d 0 0 2 [vr (some 0), vi x1, vi j] [] (mkM iv) K) (iv 0 37) (fun j _ => 0 ≤ j ∧ K (some (vi (ffirst (fun k => iv 25 k.toNat = x1) j (iv 0 37 - j).toNat))) (mkM iv)) ?_ ?_ 0 () hn.1 ⟨by omega, by rw [show iv 0 37 - 0 = iv 0 37 by omega]; exact k⟩
  · rintro - ⟨-, kk⟩
    rw [show (iv 0 37 - iv 0 37).toNat = 0 by omega] at kk
    apply sX12_find_2
    exact ⟨fun _ => kk, fun h => by omega⟩
  · rintro j - hj ⟨j0, kk⟩ ih
    rw [show (iv 0 37 - j).toNat = (iv 0 37 - (j + 1)).toNat + 1 by omega] at kk
    unfold ffirst at kk
    apply sX12_find_2
    refine ⟨fun h => by omega, fun _ => ⟨by omega, fun n => ⟨by omega, ih () ⟨by omega, ?_⟩⟩, fun e => ?_⟩⟩
    · rw [if_neg n] at kk; exact kk
    · rw [if_pos e] at kk; exact kk
theorem C_isKnockedAt {G : ZG} {d : Nat} {iv : Nat → Nat → Int} {K : Option AV → AH → Prop} {rv : Nat → Nat → Option Nat} {x1 : Int} (hR : RC rv) (hn : 0 ≤ iv 36 3 ∧ iv 36 3 ≤ 16) (k : K (some (vi (b01 (¬ knI (iv 37) (iv 36 3) x1 = -1)))) (mkC iv rv)) : Z G mX2_isKnockedAt d 0 0 0 [vr (some 36), vi x1, vu] [] (mkC iv rv) K := by
  apply sX2_isKnockedAt_0 hR
  unfold knI at k
  refine lp_up (P := fun j (_ : Unit) => Z G mX2_isKnockedAt d 0 0 2 [vr (some 36), vi x1, vi j] [] (mkC iv rv) K) (iv 36 3) (fun j _ => 0 ≤ j ∧ K (some (vi (b01 (¬ ffirst (fun k => iv 37 k.toNat = x1) j (iv 36 3 - j).toNat = -1)))) (mkC iv rv)) ?_ ?_ 0 () hn.1 ⟨by omega, by rw [show iv 36 3 - 0 = iv 36 3 by omega]; exact k⟩
  · rintro - ⟨-, kk⟩
    rw [show (iv 36 3 - iv 36 3).toNat = 0 by omega] at kk
    apply sX2_isKnockedAt_2 hR
    exact ⟨fun _ => kk, fun h => by omega⟩
  · rintro j - hj ⟨j0, kk⟩ ih
    rw [show (iv 36 3 - j).toNat = (iv 36 3 - (j + 1)).toNat + 1 by omega] at kk
    unfold ffirst at kk
    apply sX2_isKnockedAt_2 hR
    refine ⟨fun h => by omega, fun _ => ⟨by omega, fun n => ⟨by omega, ih () ⟨by omega, ?_⟩⟩, fun e => ?_⟩⟩
    · rw [if_neg n] at kk; exact kk
    · rw [if_pos e] at kk
      unfold b01 at kk
      rw [if_pos (by omega)] at kk; exact kk
theorem M_behind {G : ZG} {d : Nat} {iv : Nat → Nat → Int} {K : Option AV → AH → Prop} {x1 x2 : Int} (h1 : 0 ≤ x1 ∧ x1 < 2) (hn : 0 ≤ iv 7 x1.toNat ∧ iv 7 x1.toNat ≤ 400) (h2 : -1 ≤ x2 ∧ x2 ≤ 500) (k : K (some (vi (bh (iv 7 x1.toNat) (iv 10 x1.toNat) x2))) (mkM iv)) : Z G mX12_behind d 0 0 0 [vr (some 0), vi x1, vi x2, vu] [] (mkM iv) K := by
  apply sX12_behind_0
  unfold bh alN at k
  refine ⟨fun n => ⟨by omega, by omega, fun a => ⟨by omega, ?_⟩, fun a => ⟨by omega, fun b => ⟨by omega, fun c => absurd b c, fun _ => ?_⟩, fun b => ⟨by omega, by omega, fun c => ⟨by omega, fun _ => ?_, fun e => absurd e b⟩, fun c => ⟨by omega, ?_⟩⟩⟩⟩, fun e => ?_⟩
  · rw [if_neg n, if_pos (by split <;> omega)] at k; exact k
  · rw [if_neg n, if_pos b, if_neg (by omega), if_pos b] at k; exact k
  · rw [if_neg n, if_neg b, if_neg (by omega), if_neg b] at k; exact k
  · rw [if_neg n, if_neg b, if_pos (by omega)] at k; exact k
  · rw [if_pos e] at k; exact k
theorem C_partAhead {G : ZG} {d : Nat} {iv : Nat → Nat → Int} {K : Option AV → AH → Prop} {rv : Nat → Nat → Option Nat} {o1 : Nat} {x2 x3 : Int} (hR : RC rv) (h1 : isSd o1) (hn : 0 ≤ iv o1 4 ∧ iv o1 4 ≤ 400) (h2 : 0 ≤ x2 ∧ x2 ≤ 500) (h3 : 0 ≤ x3 ∧ x3 ≤ 30000) (k : K (some (vi (ah (iv o1 4) (iv o1 5) x2 x3))) (mkC iv rv)) : Z G mX2_partAhead (d + 1) 0 0 0 [vr (some 36), vr (some o1), vi x2, vi x3, vu] [] (mkC iv rv) K := by
  apply sX2_partAhead_0 hR h1
  unfold ah at k
  refine ⟨by omega, fun a => ?_, fun a => ?_⟩
  · rw [if_neg (by omega)] at k
    have t := Int.tmod_eq_emod_of_nonneg (a := x2 + x3 - iv o1 4) (b := 8) (by omega)
    rw [t]
    refine ⟨fun c => ?_, fun c => ⟨by omega, by omega, ?_⟩⟩
    · rw [if_pos (Classical.not_not.mp c)] at k; exact k
    · rw [if_neg c] at k; exact k
  · rw [if_pos a] at k; exact k
set_option maxRecDepth 20000 in
theorem sX2_playOn_0 {G : ZG} {d : Nat} {iv : Nat → Nat → Int} {K : Option AV → AH → Prop} {rv : Nat → Nat → Option Nat} {o1 : Nat} {x2 x3 : Int} (hR : RC rv) (h_o1 : isSd o1) (h : Z G mX2_playOn (d + 2) 0 0 3 [vr (some 36), vr (some o1), vi x2, vi x3, vi x2] [] (mkC iv rv) K) : Z G mX2_playOn (d + 2) 0 0 0 [vr (some 36), vr (some o1), vi x2, vi x3, vu] [] (mkC iv rv) K := (Z_iload_n (dX2_playOn 0) rfl (Z_istore (dX2_playOn 1) (Nat.le_of_ble_eq_true rfl) rfl h))
set_option maxRecDepth 20000 in
theorem sX2_playOn_3 {G : ZG} {d : Nat} {iv : Nat → Nat → Int} {K : Option AV → AH → Prop} {rv : Nat → Nat → Option Nat} {o1 : Nat} {x2 x3 x4 : Int} (hR : RC rv) (h_o1 : isSd o1) (h : ((iv o1 4) ≤ x4 → ((0 ≤ iv o1 4 ∧ iv o1 4 ≤ 400) ∧ (((0 : Int) ≤ x2 ∧ x2 ≤ 500) ∧ (((0 : Int) ≤ x3 ∧ (x3 : Int) ≤ 30000) ∧ (K (some (vi (ah (iv o1 4) (iv o1 5) x2 x3))) (mkC iv rv)))))) ∧ (x4 < (iv o1 4) → ((-2147483648 ≤ (x2 + x3) ∧ (x2 + x3) ≤ 2147483647) ∧ (((x2 + x3) < x4 → ((0 ≤ iv o1 4 ∧ iv o1 4 ≤ 400) ∧ (((0 : Int) ≤ x2 ∧ x2 ≤ 500) ∧ (((0 : Int) ≤ x3 ∧ (x3 : Int) ≤ 30000) ∧ (K (some (vi (ah (iv o1 4) (iv o1 5) x2 x3))) (mkC iv rv)))))) ∧ (x4 ≤ (x2 + x3) → ((0 ≤ x4 ∧ x4 < (400 : Nat)) ∧ ((-2147483648 ≤ (x4 + 1) ∧ (x4 + 1) ≤ 2147483647) ∧ (Z G mX2_playOn (d + 2) 0 0 3 [vr (some 36), vr (some o1), vi x2, vi x3, vi (x4 + 1)] [] (mkC (iu iv 39 ((x4).toNat) 1) rv) K)))))))) : Z G mX2_playOn (d + 2) 0 0 3 [vr (some 36), vr (some o1), vi x2, vi x3, vi x4] [] (mkC iv rv) K := (Z_iload (dX2_playOn 2) rfl (Z_aload_n (dX2_playOn 3) rfl (Z_gIC (x := (iv o1 4)) (dX2_playOn 4) lk_X2_30 (Sd_sh h_o1) (Or.inl rfl) rfl (Z_icmp_ge (dX2_playOn 5) rfl (fun c1 => (Z_aload_n (dX2_playOn 18) rfl (Z_aload_n (dX2_playOn 19) rfl (Z_iload_n (dX2_playOn 20) rfl (Z_iload_n (dX2_playOn 21) rfl (Z_cVC (As := [vr (some o1), vi x2, vi x3]) (S := []) (dX2_playOn 22) lk_X2_52 sC36 (by decide) rfl rfl (Nat.le_of_ble_eq_true rfl) (Nat.le_of_ble_eq_true rfl) (C_partAhead hR h_o1 (h.1 c1).1 (h.1 c1).2.1 (h.1 c1).2.2.1 ((Z_ireturn (dX2_playOn 23) rfl (h.1 c1).2.2.2))))))))) (fun c2 => (Z_iload (dX2_playOn 6) rfl (Z_iload_n (dX2_playOn 7) rfl (Z_iload_n (dX2_playOn 8) rfl (Z_iadd (dX2_playOn 9) (h.2 c2).1 (Z_icmp_gt (dX2_playOn 10) rfl (fun c3 => (Z_aload_n (dX2_playOn 18) rfl (Z_aload_n (dX2_playOn 19) rfl (Z_iload_n (dX2_playOn 20) rfl (Z_iload_n (dX2_playOn 21) rfl (Z_cVC (As := [vr (some o1), vi x2, vi x3]) (S := []) (dX2_playOn 22) lk_X2_52 sC36 (by decide) rfl rfl (Nat.le_of_ble_eq_true rfl) (Nat.le_of_ble_eq_true rfl) (C_partAhead hR h_o1 ((h.2 c2).2.1 c3).1 ((h.2 c2).2.1 c3).2.1 ((h.2 c2).2.1 c3).2.2.1 ((Z_ireturn (dX2_playOn 23) rfl ((h.2 c2).2.1 c3).2.2.2))))))))) (fun c4 => (Z_aload_n (dX2_playOn 11) rfl (Z_gRC (r := (some 39)) (dX2_playOn 12) lk_X2_18 sC36 rfl (hR 45) (Z_iload (dX2_playOn 13) rfl (Z_iconst (dX2_playOn 14) ⟨by decide, by decide⟩ (Z_zastC (dX2_playOn 15) sC39 ((h.2 c2).2.2 c4).1 (Or.inr rfl) (Z_iinc (dX2_playOn 16) rfl (Nat.le_of_ble_eq_true rfl) ((h.2 c2).2.2 c4).2.1 rfl (Z_goto (dX2_playOn 17) rfl ((h.2 c2).2.2 c4).2.2))))))))))))))))))

