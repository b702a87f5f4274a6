/-! ===== the public methods: songs, rules, what is laid ===== -/
theorem RD_g {c c' m m' : Nat → Nat → Int} {s : Int} (h : RD c m s) (hc : ∀ i j, (i = sdA s ∧ (j = 4 ∨ j = 5)) ∨ i = sdA s + 1 ∨ i = sdA s + 2 → c' i j = c i j) (hm : ∀ i j, i = 7 ∨ i = 8 ∨ i = 9 ∨ i = 10 → m' i j = m i j) (h4 : m 0 4 ≤ m' 0 4) (hl : ∀ q : Int, 0 ≤ q → q < m 0 4 → m' 4 q.toNat = m 4 q.toNat) : RD c' m' s := by
  obtain ⟨a1, a2, a3, a4, a5⟩ := h
  unfold RD
  rw [hm 7 _ (by omega), hm 10 _ (by omega)]
  refine ⟨by rw [hc _ _ (by omega)]; exact a1, a2, by rw [hc _ _ (by omega)]; exact a3, ?_, fun k k0 k1 => ?_⟩
  · rcases a4 with e | e
    · exact Or.inl e
    · rw [hl _ (by omega) (by omega)]; exact Or.inr ⟨e.1, by omega⟩
  · rw [hc _ _ (by omega), hc _ _ (by omega), hm 8 _ (by omega), hm 9 _ (by omega)]
    exact a5 k k0 k1
/-- one side changes -/
theorem RSd_u {B B' : Int} {c c' m m' : Nat → Nat → Int} {s : Int} (hs : s = 0 ∨ s = 1) (h : RSd B c m) (hB : B ≤ B') (hc : ∀ i j, i = 14 ∨ ((16 ≤ i ∧ i ≤ 23) ∧ ¬ (sdA s ≤ i ∧ i ≤ sdA s + 3)) ∨ ((i = 42 ∨ i = 46) ∧ j = 6) → c' i j = c i j) (h7 : ∀ j, j ≠ s.toNat → m' 7 j = m 7 j ∧ m' 10 j = m 10 j) (h8 : ∀ j : Nat, (j < (400 * s).toNat ∨ (400 * s + 400).toNat ≤ j) → m' 8 j = m 8 j ∧ m' 9 j = m 9 j) (h4 : m' 0 4 = m 0 4) (hl : ∀ j, m' 4 j = m 4 j) (new : RD c' m' s ∧ SK c' (sdA s) ∧ (0 ≤ c' (sdA s) 6 ∧ c' (sdA s) 6 ≤ B')) : RSd B' c' m' := by
  obtain ⟨a1, a2, a3⟩ := h
  have so := sdA_c s
  refine ⟨fun t ht => ?_, by rw [hc 42 6 (by omega)]; omega, by rw [hc 46 6 (by omega)]; omega⟩
  by_cases n : t = s
  · subst n; exact new
  · obtain ⟨b1, b2, b3⟩ := a1 t ht
    have dj := sd_ne hs ht n
    have tn : t.toNat ≠ s.toNat := by omega
    refine ⟨RD_f b1 (fun i j e => hc i j (by omega)) (h7 _ tn).1 (h7 _ tn).2 (fun k k0 k1 => h8 _ (by have := b1.2.1; omega)) h4 (fun q _ _ => hl _), SK_f b2 (fun i j e => hc i j (by omega)), ?_⟩
    rw [hc (sdA t) 6 (by omega)]; omega
theorem bNow_u {c c' : Nat → Nat → Int} {s : Int} (hs : s = 0 ∨ s = 1) (h14 : c' 14 2 = c 14 2) (h : c (sdA s) 6 < c' (sdA s) 6) (ho : ∀ i, (i = 16 ∨ i = 20) → i ≠ sdA s → c' i 6 = c i 6) : bNow c < bNow c' := by
  unfold bNow
  rcases hs with e | e <;> subst e
  · have := ho 20 (by omega) (by decide)
    have g : sdA 0 = 16 := rfl
    rw [g] at h; omega
  · have := ho 16 (by omega) (by decide)
    have g : sdA 1 = 20 := rfl
    rw [g] at h; omega
theorem sdR {B : Int} {c m : Nat → Nat → Int} {rv : Nat → Nat → Option Nat} {s : Int} (h : RL B c rv m) (hs : 0 ≤ s ∧ s ≤ 1) : RD c m s ∧ SK c (sdA s) ∧ (0 ≤ c (sdA s) 6 ∧ c (sdA s) 6 ≤ B) := h.2.2.2.2.2.2.1.1 s (by omega)
theorem okC {B : Int} {c m : Nat → Nat → Int} {rv : Nat → Nat → Option Nat} {s : Int} (h : RL B c rv m) (hB : 0 ≤ B ∧ B ≤ 10000000) (hs : 0 ≤ s ∧ s ≤ 1) : okSd c (sdA s) := by
  have q := sdR h hs
  exact okSd_of (by omega) h.2.2.2.2.1 q.1 (by omega)
theorem okM {B : Int} {c m : Nat → Nat → Int} {rv : Nat → Nat → Option Nat} {s : Int} (h : RL B c rv m) (hs : 0 ≤ s ∧ s ≤ 1) : okSide m s := okSide_of hs h.2.2.2.2.1 (sdR h hs).1
theorem nearR {B : Int} {c m : Nat → Nat → Int} {rv : Nat → Nat → Option Nat} {s : Int} (h : RL B c rv m) (hs : 0 ≤ s ∧ s ≤ 1) : nearC c (sdA s) 40 = stuckM m s := near_eq h.2.2.2.2.1 (sdR h hs).1
theorem P_song {G G' : ZG} {c m : Nat → Nat → Int} {rv : Nat → Nat → Option Nat} {B : Int} {x1 x2 x3 : Int} (h : RL B c rv m) (hB : 0 ≤ B ∧ B ≤ 10000000) (hx1 : -2147483648 ≤ x1 ∧ x1 ≤ 2147483647) (hx2 : -2147483648 ≤ x2 ∧ x2 ≤ 2147483647) (hx3 : -2147483648 ≤ x3 ∧ x3 ≤ 2147483647) : Z G mX11_song 40 0 0 0 [vr (some 0), vi x1, vi x2, vi x3, vu] [] (mkC c rv) (QC G' mX12_song [vr (some 0), vi x1, vi x2, vi x3, vu] m (B + 1000)) := by
  obtain ⟨a0, a1, a2, a3, a4, a5, a6, a7, a8, a9, a10, a11, a12, a13⟩ := id h
  have hm0 : 0 ≤ x1 → x1 < 4 → m 2 x1.toNat ≤ 60 := fun p q => (tr_b a2 ⟨p, q⟩).2.2
  have n10 := a3.1
  apply sX11_song_0 a0
  have b1 : ¬ okSong x1 x2 x3 → QC G' mX12_song [vr (some 0), vi x1, vi x2, vi x3, vu] m (B + 1000) (some (vi (-1))) (mkC (iu c 0 17 1) rv) := fun n => ⟨_, rv, rfl, M_song n10.2 hm0 (fun _ => QM_u h) (fun g => absurd g n) (fun g => absurd g n) (fun g => absurd g n) (fun g => absurd g n) (fun g => absurd g n)⟩
  refine ⟨fun p => b1 (by unfold okSong; omega), fun p => ⟨fun q => b1 (by unfold okSong; omega), fun q => ⟨fun r => ⟨by omega, fun s => ?_, fun s => ?_⟩, fun r => b1 (by unfold okSong; omega)⟩⟩⟩
  all_goals (
    have ok : okSong x1 x2 x3 := by unfold okSong; omega
    have u1 := a2 x1 (by omega) (by omega)
    have to := trA_c x1)
  · rcases u1 with ⟨e1, e2, e3⟩ | ⟨e1, e2, e3, e4, e5⟩
    · omega
    have n1 : ¬ m 2 x1.toNat = -1 := by omega
    refine ⟨by omega, fun t => ⟨by omega, fun lv => ⟨fun u => ⟨by omega, by omega, lv, ?_⟩, fun u => ?_⟩, fun lv => ?_⟩, fun t => ?_⟩
    · have lv' : ∀ j : Int, 0 ≤ j → j < x2 → 0 ≤ m 3 (60 * x1 + j).toNat ∧ m 3 (60 * x1 + j).toNat ≤ 40 := fun j j0 j1 => by rw [← e5 j j0 (by omega)]; exact lv j j0 j1
      refine ⟨_, rv, rfl, M_song n10.2 hm0 (fun n => absurd ok n) (fun _ n => absurd n n1) (fun _ _ n => by omega) (fun _ _ _ j j0 j1 n => by have := lv' j j0 j1; omega) (fun _ _ _ _ n => by omega) (fun _ _ _ _ _ => ?_)⟩
      refine ⟨by rw [n10.1]; rfl, _, rfl, RL_B (B := B) ?_ (by omega)⟩
      rw [n10.1]
      have hc : ∀ i j, ¬ (i = 0 ∧ j = 17) ∧ i ≠ 11 ∧ i ≠ 12 ∧ i ≠ 13 ∧ ¬ (i = 10 ∧ j = 3) → iu (iu (iu (iu (imap c 11 (60 * m 0 4).toNat (60 * m 0 4 + x2).toNat (fun j => c (trA x1 + 1) (j - 60 * m 0 4).toNat)) 12 (m 0 4).toNat x2) 13 (m 0 4).toNat x3) 10 3 (m 0 4 + 1)) 0 17 0 i j = c i j := fun i j q => by
        rw [iu_ap, if_neg (by omega), iu_ap, if_neg (by omega), iu_o (by omega), iu_o (by omega), imap_row (by omega)]
      have hm : ∀ i j, ¬ (i = 0 ∧ (j = 0 ∨ j = 4)) ∧ i ≠ 4 ∧ i ≠ 5 ∧ i ≠ 6 → iu (iu (iu (iu (imap m 6 (60 * m 0 4).toNat (60 * m 0 4 + x2).toNat (fun j => m 3 (60 * x1 + (j - 60 * m 0 4)).toNat)) 4 (m 0 4).toNat x2) 5 (m 0 4).toNat x3) 0 4 (m 0 4 + 1)) 0 0 0 i j = m i j := fun i j q => by
        rw [iu_ap, if_neg (by omega), iu_ap, if_neg (by omega), iu_o (by omega), iu_o (by omega), imap_row (by omega)]
      have c11 : ∀ j, iu (iu (iu (iu (imap c 11 (60 * m 0 4).toNat (60 * m 0 4 + x2).toNat (fun j => c (trA x1 + 1) (j - 60 * m 0 4).toNat)) 12 (m 0 4).toNat x2) 13 (m 0 4).toNat x3) 10 3 (m 0 4 + 1)) 0 17 0 11 j = if (60 * m 0 4).toNat ≤ j ∧ j < (60 * m 0 4 + x2).toNat then c (trA x1 + 1) ((j : Int) - 60 * m 0 4).toNat else c 11 j := fun j => by
        rw [iu_o (by decide), iu_o (by decide), iu_o (by decide), iu_o (by decide), imap_ap]
        by_cases g : (60 * m 0 4).toNat ≤ j ∧ j < (60 * m 0 4 + x2).toNat
        · rw [if_pos ⟨rfl, g⟩, if_pos g]
        · rw [if_neg (fun z => g z.2), if_neg g]
      have m6 : ∀ j, iu (iu (iu (iu (imap m 6 (60 * m 0 4).toNat (60 * m 0 4 + x2).toNat (fun j => m 3 (60 * x1 + (j - 60 * m 0 4)).toNat)) 4 (m 0 4).toNat x2) 5 (m 0 4).toNat x3) 0 4 (m 0 4 + 1)) 0 0 0 6 j = if (60 * m 0 4).toNat ≤ j ∧ j < (60 * m 0 4 + x2).toNat then m 3 (60 * x1 + ((j : Int) - 60 * m 0 4)).toNat else m 6 j := fun j => by
        rw [iu_o (by decide), iu_o (by decide), iu_o (by decide), iu_o (by decide), imap_ap]
        by_cases g : (60 * m 0 4).toNat ≤ j ∧ j < (60 * m 0 4 + x2).toNat
        · rw [if_pos ⟨rfl, g⟩, if_pos g]
        · rw [if_neg (fun z => g z.2), if_neg g]
      have c12 : ∀ j, iu (iu (iu (iu (imap c 11 (60 * m 0 4).toNat (60 * m 0 4 + x2).toNat (fun j => c (trA x1 + 1) (j - 60 * m 0 4).toNat)) 12 (m 0 4).toNat x2) 13 (m 0 4).toNat x3) 10 3 (m 0 4 + 1)) 0 17 0 12 j = if j = (m 0 4).toNat then x2 else c 12 j := fun j => by
        rw [iu_o (by decide), iu_o (by decide), iu_o (by decide), iu_i, imap_row (by decide)]
      have c13 : ∀ j, iu (iu (iu (iu (imap c 11 (60 * m 0 4).toNat (60 * m 0 4 + x2).toNat (fun j => c (trA x1 + 1) (j - 60 * m 0 4).toNat)) 12 (m 0 4).toNat x2) 13 (m 0 4).toNat x3) 10 3 (m 0 4 + 1)) 0 17 0 13 j = if j = (m 0 4).toNat then x3 else c 13 j := fun j => by
        rw [iu_o (by decide), iu_o (by decide), iu_i, iu_o (by decide), imap_row (by decide)]
      have m4 : ∀ j, iu (iu (iu (iu (imap m 6 (60 * m 0 4).toNat (60 * m 0 4 + x2).toNat (fun j => m 3 (60 * x1 + (j - 60 * m 0 4)).toNat)) 4 (m 0 4).toNat x2) 5 (m 0 4).toNat x3) 0 4 (m 0 4 + 1)) 0 0 0 4 j = if j = (m 0 4).toNat then x2 else m 4 j := fun j => by
        rw [iu_o (by decide), iu_o (by decide), iu_o (by decide), iu_i, imap_row (by decide)]
      have m5 : ∀ j, iu (iu (iu (iu (imap m 6 (60 * m 0 4).toNat (60 * m 0 4 + x2).toNat (fun j => m 3 (60 * x1 + (j - 60 * m 0 4)).toNat)) 4 (m 0 4).toNat x2) 5 (m 0 4).toNat x3) 0 4 (m 0 4 + 1)) 0 0 0 5 j = if j = (m 0 4).toNat then x3 else m 5 j := fun j => by
        rw [iu_o (by decide), iu_o (by decide), iu_i, iu_o (by decide), imap_row (by decide)]
      have c10 : iu (iu (iu (iu (imap c 11 (60 * m 0 4).toNat (60 * m 0 4 + x2).toNat (fun j => c (trA x1 + 1) (j - 60 * m 0 4).toNat)) 12 (m 0 4).toNat x2) 13 (m 0 4).toNat x3) 10 3 (m 0 4 + 1)) 0 17 0 10 3 = m 0 4 + 1 := by rw [iu_o (by decide), iu_eq]
      have m04 : iu (iu (iu (iu (imap m 6 (60 * m 0 4).toNat (60 * m 0 4 + x2).toNat (fun j => m 3 (60 * x1 + (j - 60 * m 0 4)).toNat)) 4 (m 0 4).toNat x2) 5 (m 0 4).toNat x3) 0 4 (m 0 4 + 1)) 0 0 0 0 4 = m 0 4 + 1 := by rw [iu_k (by decide), iu_eq]
      have u0 : iu (iu (iu (iu (imap c 11 (60 * m 0 4).toNat (60 * m 0 4 + x2).toNat (fun j => c (trA x1 + 1) (j - 60 * m 0 4).toNat)) 12 (m 0 4).toNat x2) 13 (m 0 4).toNat x3) 10 3 (m 0 4 + 1)) 0 17 0 0 17 = iu (iu (iu (iu (imap m 6 (60 * m 0 4).toNat (60 * m 0 4 + x2).toNat (fun j => m 3 (60 * x1 + (j - 60 * m 0 4)).toNat)) 4 (m 0 4).toNat x2) 5 (m 0 4).toNat x3) 0 4 (m 0 4 + 1)) 0 0 0 0 0 := by rw [iu_eq, iu_eq]
      generalize iu (iu (iu (iu (imap c 11 (60 * m 0 4).toNat (60 * m 0 4 + x2).toNat (fun j => c (trA x1 + 1) (j - 60 * m 0 4).toNat)) 12 (m 0 4).toNat x2) 13 (m 0 4).toNat x3) 10 3 (m 0 4 + 1)) 0 17 0 = c' at *
      generalize iu (iu (iu (iu (imap m 6 (60 * m 0 4).toNat (60 * m 0 4 + x2).toNat (fun j => m 3 (60 * x1 + (j - 60 * m 0 4)).toNat)) 4 (m 0 4).toNat x2) 5 (m 0 4).toNat x3) 0 4 (m 0 4 + 1)) 0 0 0 = m' at *
      refine ⟨a0, ?_, RT_f a2 (fun i j q => hc i j (by omega)) (fun i j q => hm i j (by omega)), ?_, RR_f a4 (fun j => hc _ _ (by omega)) (hm _ _ (by omega)) (hm _ _ (by omega)), ?_, ?_, RB_f a7 (fun i j q => hc i j (by omega)), ?_, RK_f a9 (fun i j q => hc i j (by omega)) (fun i j q => hm i j (by omega)), RN_f a10 (fun i j q => hc i j (by omega)) (fun i j q => hm i j (by omega)), RF_f a11 (fun i j q => hc i j (by omega)) (fun i j q => hm i j (by omega)), RG_f a12 (fun i j q => hc i j (by omega)) (fun j q => hm _ _ (by omega)), RH_f a13 (fun i j q => hc i j (by omega)) (fun i j q => hm i j (by omega))⟩
      · exact u0
      · refine ⟨by omega, fun s s0 s1 => ?_, fun s s0 s1 => ?_⟩
        · rw [c12, c13, m4, m5]
          by_cases g : s.toNat = (m 0 4).toNat
          · rw [if_pos g, if_pos g, if_pos g, if_pos g]; omega
          · rw [if_neg g, if_neg g, if_neg g, if_neg g]; exact a3.2.1 s s0 s1
        · rw [m04] at s1
          rw [m4, m5]
          by_cases g : s = m 0 4
          · subst g
            rw [if_pos rfl, if_pos rfl]
            refine ⟨by omega, by omega, fun k k0 k1 => ?_⟩
            rw [c11, m6, if_pos (by omega), if_pos (by omega)]
            have i1 : (((60 * m 0 4 + k).toNat : Nat) : Int) - 60 * m 0 4 = k := by omega
            rw [i1]
            exact ⟨e5 k k0 (by omega), lv' k k0 k1⟩
          · rw [if_neg (by omega), if_neg (by omega)]
            obtain ⟨g1, g2, g3⟩ := a3.2.2 s s0 (by omega)
            have l60 := (a3.2.1 s s0 (by omega)).2
            refine ⟨g1, g2, fun k k0 k1 => ?_⟩
            rw [c11, m6, if_neg (by omega), if_neg (by omega)]
            exact g3 k k0 k1
      · refine ⟨by rw [hc 0 16 (by omega), hm 0 7 (by omega)]; exact a5.1, funext fun j => ?_, funext fun j => ?_⟩
        · rw [c12, m4, a5.2.1]
        · rw [c13, m5, a5.2.2]
      · obtain ⟨b1, b2, b3⟩ := a6
        refine ⟨fun s hs => ?_, by rw [hc 42 6 (by omega)]; exact b2, by rw [hc 46 6 (by omega)]; exact b3⟩
        obtain ⟨d1, d2, d3⟩ := b1 s hs
        have so := sdA_c s
        refine ⟨RD_g d1 (fun i j e => hc i j (by omega)) (fun i j e => hm i j (by omega)) (by omega) (fun q q0 q1 => by rw [m4, if_neg (by omega)]), SK_f d2 (fun i j e => hc i j (by omega)), ?_⟩
        rw [hc (sdA s) 6 (by omega)]; exact d3
      · have := a8.1
        have e30 : c' 30 3 = c 30 3 := hc _ _ (by omega)
        exact ⟨by omega, fun e => by omega⟩
    · refine ⟨_, rv, rfl, M_song n10.2 hm0 (fun n => absurd ok n) (fun _ n => absurd n n1) (fun _ _ n => by omega) (fun _ _ _ j j0 j1 n => ?_) (fun _ _ _ _ _ => QM_u h) (fun _ _ _ _ n => by omega)⟩
      have := lv j j0 j1
      rw [e5 j j0 (by omega)] at this
      omega
    · refine ⟨_, rv, rfl, M_song n10.2 hm0 (fun _ => QM_u h) (fun _ n => absurd n n1) (fun _ _ n => by omega) (fun _ _ _ j j0 j1 n => QM_u h) (fun _ _ _ g => ?_) (fun _ _ _ g => ?_)⟩
      all_goals exact absurd (fun j j0 j1 => by rw [e5 j j0 (by omega)]; exact g j j0 j1) lv
    · refine ⟨_, rv, rfl, M_song n10.2 hm0 (fun n => absurd ok n) (fun _ n => absurd n n1) (fun _ _ _ => QM_u h) (fun _ _ n => by omega) (fun _ _ n => by omega) (fun _ _ n => by omega)⟩
  · rcases u1 with ⟨e1, e2, e3⟩ | ⟨e1, e2, e3, e4, e5⟩
    · exact ⟨_, rv, rfl, M_song n10.2 hm0 (fun n => absurd ok n) (fun _ _ => QM_u h) (fun _ n => absurd e3 n) (fun _ n => absurd e3 n) (fun _ n => absurd e3 n) (fun _ n => absurd e3 n)⟩
    · omega
theorem gmax_c {f g : Nat → Int} {a : Int} : ∀ n : Nat, (∀ k : Int, 0 ≤ k → k < n → f (a + k).toNat = g (a + k).toNat) → gmax f a n = gmax g a n
  | 0, _ => rfl
  | n + 1, h => by
    unfold gmax
    rw [gmax_c n (fun k k0 k1 => h k k0 (by omega)), h n (by omega) (by omega)]
theorem P_told {G G' : ZG} {c m : Nat → Nat → Int} {rv : Nat → Nat → Option Nat} {B : Int} {x1 x2 : Int} (h : RL B c rv m) (hB : 0 ≤ B ∧ B ≤ 10000000) (hx1 : -2147483648 ≤ x1 ∧ x1 ≤ 2147483647) (hx2 : -2147483648 ≤ x2 ∧ x2 ≤ 2147483647) : Z G mX11_told 40 0 0 0 [vr (some 0), vi x1, vi x2] [] (mkC c rv) (QC G' mX12_told [vr (some 0), vi x1, vi x2, vu, vu] m (B + 1000)) := by
  obtain ⟨a0, a1, a2, a3, a4, a5, a6, a7, a8, a9, a10, a11, a12, a13⟩ := id h
  have n10 := a3.1
  have hl : 0 ≤ x1 → x1 < m 0 4 → 1 ≤ m 4 x1.toNat ∧ m 4 x1.toNat ≤ 60 := fun p q => ⟨(a3.2.2 x1 p q).1, (a3.2.1 x1 p (by omega)).2.2⟩
  apply sX11_told_0 a0
  rw [n10.1]
  refine ⟨by omega, fun p => ⟨fun q => ?_, fun q => ⟨by omega, ?_⟩, fun q => ⟨by omega, ?_⟩, fun q => ⟨by omega, ?_, ?_⟩⟩, fun p => ?_⟩
  · exact ⟨_, rv, rfl, M_told n10.2 hl (fun _ => QM_u h) (fun _ e => by omega) (fun _ e => by omega) (fun _ e => by omega)⟩
  · rw [(a3.2.1 x1 p.1 (by omega)).1.1]
    exact ⟨_, rv, rfl, M_told n10.2 hl (fun n => by omega) (fun _ _ => QM_u h) (fun _ e => by omega) (fun _ e => by omega)⟩
  · rw [(a3.2.1 x1 p.1 (by omega)).1.2]
    exact ⟨_, rv, rfl, M_told n10.2 hl (fun n => by omega) (fun _ e => by omega) (fun _ _ => QM_u h) (fun _ e => by omega)⟩
  · rw [(a3.2.1 x1 p.1 (by omega)).1.1]; exact hl p.1 p.2
  · rw [(a3.2.1 x1 p.1 (by omega)).1.1]
    have l := hl p.1 p.2
    rw [gmax_c (g := m 6) _ (fun k k0 k1 => ((a3.2.2 x1 p.1 p.2).2.2 k k0 (by omega)).1)]
    exact ⟨_, rv, rfl, M_told n10.2 hl (fun n => by omega) (fun _ e => by omega) (fun _ e => by omega) (fun _ _ => QM_u h)⟩
  · exact ⟨_, rv, rfl, M_told n10.2 hl (fun _ => QM_u h) (fun e => absurd e p) (fun e => absurd e p) (fun e => absurd e p)⟩
theorem P_rules {G G' : ZG} {c m : Nat → Nat → Int} {rv : Nat → Nat → Option Nat} {B : Int} {x1 x2 : Int} (h : RL B c rv m) (hB : 0 ≤ B ∧ B ≤ 10000000) (hx1 : -2147483648 ≤ x1 ∧ x1 ≤ 2147483647) (hx2 : -2147483648 ≤ x2 ∧ x2 ≤ 2147483647) : Z G mX11_rules 40 0 0 0 [vr (some 0), vi x1, vi x2] [] (mkC c rv) (QC G' mX12_rules [vr (some 0), vi x1, vi x2] m (B + 1000)) := by
  obtain ⟨a0, a1, a2, a3, a4, a5, a6, a7, a8, a9, a10, a11, a12, a13⟩ := id h
  have r2 := a4.2.2
  apply sX11_rules_0 a0
  have bad : ¬ ((1 ≤ x1 ∧ x1 ≤ 20) ∧ 1 ≤ x2 ∧ x2 ≤ 20) → QC G' mX12_rules [vr (some 0), vi x1, vi x2] m (B + 1000) (some (vi 0)) (mkC (iu c 0 17 1) rv) := fun n => ⟨_, rv, rfl, sX12_rules_0 ⟨fun _ => QM_u h, fun _ => ⟨fun _ => QM_u h, fun _ => ⟨fun _ => QM_u h, fun _ => ⟨fun _ => by omega, fun _ => QM_u h⟩⟩⟩⟩⟩
  refine ⟨fun p => bad (by omega), fun p => ⟨fun q => ⟨by omega, _, rv, rfl, sX12_rules_0 ⟨fun _ => by omega, fun _ => ⟨fun _ => by omega, fun _ => ⟨fun _ => by omega, fun _ => ⟨fun _ => QM_i rfl ?_, fun _ => by omega⟩⟩⟩⟩⟩, fun q => bad (by omega)⟩⟩
  have hc : ∀ i j, ¬ (i = 0 ∧ j = 17) ∧ i ≠ 14 → iu (iu (iu (iu c 14 0 x1) 14 1 x2) 14 2 (c 14 2 + 1)) 0 17 0 i j = c i j := fun i j q => by rw [iu_ap, if_neg (by omega), iu_o (by omega), iu_o (by omega), iu_o (by omega)]
  have hm : ∀ i j, ¬ (i = 0 ∧ (j = 0 ∨ j = 5 ∨ j = 6)) → iu (iu (iu m 0 5 x1) 0 6 x2) 0 0 0 i j = m i j := fun i j q => by rw [iu_ap, if_neg (by omega), iu_ap, if_neg (by omega), iu_ap, if_neg (by omega)]
  have c14 : iu (iu (iu (iu c 14 0 x1) 14 1 x2) 14 2 (c 14 2 + 1)) 0 17 0 14 0 = x1 ∧ iu (iu (iu (iu c 14 0 x1) 14 1 x2) 14 2 (c 14 2 + 1)) 0 17 0 14 1 = x2 ∧ iu (iu (iu (iu c 14 0 x1) 14 1 x2) 14 2 (c 14 2 + 1)) 0 17 0 14 2 = c 14 2 + 1 := by
    refine ⟨?_, ?_, ?_⟩
    · rw [iu_o (by decide), iu_k (by decide), iu_k (by decide)]; exact iu_eq
    · rw [iu_o (by decide), iu_k (by decide)]; exact iu_eq
    · rw [iu_o (by decide)]; exact iu_eq
  have m56 : iu (iu (iu m 0 5 x1) 0 6 x2) 0 0 0 0 5 = x1 ∧ iu (iu (iu m 0 5 x1) 0 6 x2) 0 0 0 0 6 = x2 := by
    refine ⟨?_, ?_⟩
    · rw [iu_k (by decide), iu_k (by decide)]; exact iu_eq
    · rw [iu_k (by decide)]; exact iu_eq
  have u0 : iu (iu (iu (iu c 14 0 x1) 14 1 x2) 14 2 (c 14 2 + 1)) 0 17 0 0 17 = iu (iu (iu m 0 5 x1) 0 6 x2) 0 0 0 0 0 := by rw [iu_eq, iu_eq]
  generalize iu (iu (iu (iu c 14 0 x1) 14 1 x2) 14 2 (c 14 2 + 1)) 0 17 0 = c' at *
  generalize iu (iu (iu m 0 5 x1) 0 6 x2) 0 0 0 = m' at *
  refine ⟨a0, ?_, RT_f a2 (fun i j q => hc i j (by omega)) (fun i j q => hm i j (by omega)), RS_f a3 (fun i j q => hc i j (by omega)) (fun i j q => hm i j (by omega)), ?_, RP_f a5 (fun i j q => hc i j (by omega)) (fun i j q => hm i j (by omega)), ?_, ?_, RO_f a8 (fun i j q => hc i j (by omega)), RK_f a9 (fun i j q => hc i j (by omega)) (fun i j q => hm i j (by omega)), RN_f a10 (fun i j q => hc i j (by omega)) (fun i j q => hm i j (by omega)), RF_f a11 (fun i j q => hc i j (by omega)) (fun i j q => hm i j (by omega)), RG_f a12 (fun i j q => hc i j (by omega)) (fun j q => hm _ _ (by omega)), RH_f a13 (fun i j q => hc i j (by omega)) (fun i j q => hm i j (by omega))⟩
  · exact u0
  · exact ⟨by omega, by omega, by omega⟩
  · obtain ⟨b1, b2, b3⟩ := a6
    refine ⟨fun s hs => ?_, by rw [hc 42 6 (by omega)]; omega, by rw [hc 46 6 (by omega)]; omega⟩
    obtain ⟨d1, d2, d3⟩ := b1 s hs
    have so := sdA_c s
    refine ⟨RD_f d1 (fun i j e => hc i j (by omega)) (hm _ _ (by omega)) (hm _ _ (by omega)) (fun k _ _ => ⟨hm _ _ (by omega), hm _ _ (by omega)⟩) (hm _ _ (by omega)) (fun q _ _ => hm _ _ (by omega)), SK_n d2.1 (hc _ _ (by omega)) ?_, ?_⟩
    · rw [hc (sdA s) 6 (by omega)]; omega
    · rw [hc (sdA s) 6 (by omega)]; omega
  · refine RB_n a7.1 (hc _ _ (by omega)) ?_
    unfold bNow
    rw [hc 16 6 (by omega), hc 20 6 (by omega)]; omega

