/-! ===== a run: one step in both worlds ===== -/
theorem wf_at {m : Nat → Nat → Int} {i : Int} (hi : 0 ≤ i) (h : WF1 (bM m) i) : (0 ≤ m 30 i.toNat ∧ m 30 i.toNat ≤ 6) ∧ (m 30 i.toNat = 0 → 0 ≤ m 31 i.toNat ∧ m 31 i.toNat ≤ 1) ∧ (m 30 i.toNat = 1 → 1 ≤ m 31 i.toNat ∧ m 31 i.toNat ≤ 100) ∧ ((m 30 i.toNat = 2 ∨ m 30 i.toNat = 3 ∨ m 30 i.toNat = 5) → 0 ≤ m 31 i.toNat ∧ m 31 i.toNat ≤ 9) ∧ (m 30 i.toNat = 2 → (-1 ≤ m 32 i.toNat ∧ m 32 i.toNat ≤ 59) ∧ (m 33 i.toNat = -1 ∨ (1 ≤ m 33 i.toNat ∧ m 33 i.toNat ≤ 60)) ∧ (-1 ≤ m 34 i.toNat ∧ m 34 i.toNat ≤ 40) ∧ (m 35 i.toNat = -1 ∨ (1 ≤ m 35 i.toNat ∧ m 35 i.toNat ≤ 60))) ∧ (m 30 i.toNat = 4 → 0 ≤ m 41 i.toNat ∧ m 41 i.toNat ≤ 7) ∧ (m 30 i.toNat = 6 → (m 39 i.toNat = 2 ∧ (0 ≤ m 41 i.toNat ∧ m 41 i.toNat ≤ 7)) ∨ ((m 39 i.toNat = 0 ∨ m 39 i.toNat = 1) ∧ (m 40 i.toNat = 60 ∨ m 40 i.toNat = 62) ∧ (0 ≤ m 31 i.toNat ∧ m 31 i.toNat ≤ 9999))) := by
  have e1 : bM m (12 * i + 1).toNat = m 31 i.toNat := bM_at hi (by omega)
  have e2 : bM m (12 * i + 2).toNat = m 32 i.toNat := bM_at hi (by omega)
  have e3 : bM m (12 * i + 3).toNat = m 33 i.toNat := bM_at hi (by omega)
  have e4 : bM m (12 * i + 4).toNat = m 34 i.toNat := bM_at hi (by omega)
  have e5 : bM m (12 * i + 5).toNat = m 35 i.toNat := bM_at hi (by omega)
  have e9 : bM m (12 * i + 9).toNat = m 39 i.toNat := bM_at hi (by omega)
  have e10 : bM m (12 * i + 10).toNat = m 40 i.toNat := bM_at hi (by omega)
  have e11 : bM m (12 * i + 11).toNat = m 41 i.toNat := bM_at hi (by omega)
  unfold WF1 at h
  rw [bM_0 hi, e1, e2, e3, e4, e5, e9, e10, e11] at h
  exact h
def RunI (B : Int) (p a b : Nat) (c m : Nat → Nat → Int) (rv : Nat → Nat → Option Nat) (n : Int) : Prop := RX B p c m rv ∧ RY B a b c m ∧ (c 40 8 = n ∧ 0 ≤ n) ∧ (c 40 9 = m 0 79 ∧ c 40 10 = m 0 80 ∧ 0 ≤ m 0 79) ∧ (m 0 79 = 0 → n ≤ 1000)
theorem mScr_r {m : Nat → Nat → Int} : mScr m m := fun _ _ _ _ => rfl
theorem mScr_t {m v w : Nat → Nat → Int} (h : mScr m v) (h' : mScr v w) : mScr m w := fun i j x y => by rw [h' i j x y, h i j x y]
theorem mScr_u {m v : Nat → Nat → Int} {o k : Nat} {x y : Int} (h : mScr m v) (e : x = y) : mScr (iu m o k x) (iu v o k y) := fun i j p q => by
  rw [iu_ap, iu_ap, e, h i j p q]
theorem mScr_rM {m v : Nat → Nat → Int} (h : mScr m v) : rM m v := fun i j _ _ _ _ e _ _ _ f => h i j e (by omega)
theorem RY_v {B : Int} {a b : Nat} {c m v : Nat → Nat → Int} (h : RY B a b c m) (hab : 50 ≤ a ∧ 50 ≤ b) (s : mScr m v) : RY B a b c v := RY_c h hab (fun _ _ _ => rfl) (fun i j x _ y => s i j x (by omega))
theorem RX_v {B : Int} {p : Nat} {c m v : Nat → Nat → Int} {rv : Nat → Nat → Option Nat} (h : RX B p c m rv) (s : mScr m v) : RX B p c v rv := RX_f (a := 0) (b := 0) h rF_r (mScr_rM s)
theorem wr_eq {B i : Int} {p a b : Nat} {c m : Nat → Nat → Int} {rv : Nat → Nat → Option Nat} (hX : RX B p c m rv) (hY : RY B a b c m) (hi : 0 ≤ i ∧ i < m 0 68) : wrC c (p + 2 + i.toNat) = wrM m i := by
  obtain ⟨rs, rr, sh⟩ := hX
  obtain ⟨st, wf, nb⟩ := sh.2.2.2.2.2 i hi.1 hi.2
  have w := wf_at hi.1 wf
  obtain ⟨s0, s1, s2, s3, s4, s5, s6, s7, s8, s9⟩ := st
  have sd := (hY.1 (m 0 81) hY.2.2.1.2).1
  have eB : stB c (p + 2 + i.toNat) = mB m i := by unfold stB mB; rw [s3]
  unfold wrC wrM
  rw [hY.2.2.1.1, near_eq rr sd, sd.1, sd.2.2.1, s0, s7, rs.1.1, eB]
  by_cases g : m 30 i.toNat = 2 ∨ m 30 i.toNat = 3
  · have l := (rs.2.1 (m 31 i.toNat) (by have := w.2.2.2.1; clear w; omega) (by have := w.2.2.2.1; clear w; omega)).1.1
    have eE : stE2 c (p + 2 + i.toNat) = mE m i := by unfold stE2 mE; rw [s4, s2, l]
    rw [eE, s2, l]
  · have n2 : ¬ m 30 i.toNat = 2 := by omega
    have n3 : ¬ m 30 i.toNat = 3 := by omega
    unfold wrS
    rw [if_neg n2, if_neg n3, if_neg n2, if_neg n3, s2]
theorem hl_eq {B i r : Int} {p a b : Nat} {c m : Nat → Nat → Int} {rv : Nat → Nat → Option Nat} (hX : RX B p c m rv) (hY : RY B a b c m) (hi : 0 ≤ i ∧ i < m 0 68) (hk : m 30 i.toNat = 6) (hl : m 39 i.toNat = 1 → leastC c (sdA (m 0 81))) (hr : ¬ m 39 i.toNat = 2 → ¬ m 39 i.toNat = 0 → roomM m (m 0 81) r) : hlC c (p + 2 + i.toNat) a = hlM m i r := by
  obtain ⟨rs, rr, sh⟩ := hX
  obtain ⟨st, wf, nb⟩ := sh.2.2.2.2.2 i hi.1 hi.2
  have w := (wf_at hi.1 wf).2.2.2.2.2.2 hk
  obtain ⟨s0, s1, s2, s3, s4, s5, s6, s7, s8, s9⟩ := st
  have sd := (hY.1 (m 0 81) hY.2.2.1.2).1
  unfold hlC hlM hlS
  rw [hY.2.2.1.1, sd.1, s7, s9, s2, s8]
  rcases w with ⟨t2, n⟩ | ⟨t01, cm, nu⟩
  · rw [if_pos t2, if_pos t2, (hY.2.2.2 (m 41 i.toNat) (by omega) (by omega)).1]
  · rw [if_neg (by omega), if_neg (c := m 39 i.toNat = 2) (by omega)]
    have em : (if m 39 i.toNat = 0 then m 7 (m 0 81).toNat else roomC c (sdA (m 0 81))) = (if m 39 i.toNat = 0 then m 7 (m 0 81).toNat else r) := by
      by_cases z : m 39 i.toNat = 0
      · rw [if_pos z, if_pos z]
      · rw [if_neg z, if_neg z]
        exact room_eq rr sd (hl (by omega)) (hr (by omega) z)
    rw [em]
    rcases cm with e | e
    · rw [if_pos (b01_f (by omega)), if_pos (c := (if m 40 i.toNat = 60 then (0 : Int) else 1) = 0) (by rw [if_pos e])]
    · rw [if_neg (by rw [b01_t e]; decide), if_neg (c := (if m 40 i.toNat = 60 then (0 : Int) else 1) = 0) (by rw [if_neg (by omega)]; decide)]
theorem wr0 {m : Nat → Nat → Int} {i : Int} (h : wrM m i = 0) : (m 30 i.toNat = 1 → m 10 (m 0 81).toNat = -1 ∧ m 7 (m 0 81).toNat + m 31 i.toNat ≤ 400) ∧ (m 30 i.toNat = 2 → (0 ≤ m 31 i.toNat ∧ m 31 i.toNat < m 0 4) ∧ (mB m i < mE m i ∧ mE m i ≤ m 4 (m 31 i.toNat).toNat) ∧ m 10 (m 0 81).toNat = -1 ∧ m 7 (m 0 81).toNat + (mE m i - mB m i) ≤ 400) ∧ (m 30 i.toNat = 3 → ((0 ≤ m 31 i.toNat ∧ m 31 i.toNat < m 0 4) ∧ 8 ≤ m 4 (m 31 i.toNat).toNat) ∧ m 10 (m 0 81).toNat = -1 ∧ ¬ m 7 (m 0 81).toNat = 0) ∧ (m 30 i.toNat = 6 → m 39 i.toNat = 1 → stuckM m (m 0 81) = -1) := by
  unfold wrM wrS at h
  refine ⟨fun e => ?_, fun e => ?_, fun e => ?_, fun e f => ?_⟩
  · rw [if_pos e] at h
    split at h
    · split at h <;> omega
    · omega
  · rw [if_neg (by omega), if_pos e] at h
    split at h
    · split at h
      · split at h <;> omega
      · omega
    · omega
  · rw [if_neg (by omega), if_neg (by omega), if_pos e] at h
    split at h
    · split at h
      · split at h <;> omega
      · omega
    · omega
  · rw [if_neg (by omega), if_neg (by omega), if_neg (by omega), if_pos e] at h
    split at h <;> omega
/-- what a plain step leaves -/
theorem plain_ok {B i n : Int} {p a b : Nat} {c m : Nat → Nat → Int} {rv : Nat → Nat → Option Nat} (hA : mA a b rv) (hI : RunI B p a b c m rv n) (hi : 0 ≤ i ∧ i < m 0 68) (hk : m 30 i.toNat ≤ 4) (hw : wrM m i = 0) : RunI B p a b (plC2 c (p + 2 + i.toNat) a b) (plM2 m i) rv n ∧ rF a b c (plC2 c (p + 2 + i.toNat) a b) ∧ rM m (plM2 m i) ∧ (∀ t, 51 ≤ t → t ≤ 54 → plM2 m i t = m t) ∧ plM2 m i 0 79 = m 0 79 := by
  obtain ⟨hX, hY, h8, h9, h10⟩ := hI
  have hab := hA.2.2
  have hab' : 50 ≤ a ∧ 50 ≤ b := by omega
  obtain ⟨rs, rr, sh⟩ := id hX
  obtain ⟨st, wf, nb⟩ := sh.2.2.2.2.2 i hi.1 hi.2
  have w := wf_at hi.1 wf
  obtain ⟨s0, s1, s2, s3, s4, s5, s6, s7, s8, s9⟩ := st
  obtain ⟨w1, w2, w3, w4⟩ := wr0 hw
  have cu := hY.2.2.1
  have sd := (hY.1 (m 0 81) cu.2).1
  have so := sdA_c (m 0 81)
  -- enough to know the four facts
  have fin : ∀ c' m' : Nat → Nat → Int, RY B a b c' m' → rF a b c c' → rM m m' → (∀ t, 51 ≤ t → t ≤ 54 → m' t = m t) → (c' 40 8 = c 40 8 ∧ c' 40 9 = c 40 9 ∧ c' 40 10 = c 40 10) → (m' 0 79 = m 0 79 ∧ m' 0 80 = m 0 80) → RunI B p a b c' m' rv n ∧ rF a b c c' ∧ rM m m' ∧ (∀ t, 51 ≤ t → t ≤ 54 → m' t = m t) ∧ m' 0 79 = m 0 79 := by
    intro c' m' y f g s e1 e2
    refine ⟨⟨RX_f hX f g, y, by rw [e1.1]; exact h8, ?_, by rw [e2.1]; exact h10⟩, f, g, s, e2.1⟩
    rw [e1.2.1, e1.2.2, e2.1, e2.2]; exact h9
  have lay : ∀ (k wh : Int) (fc fm : Nat → Int), 1 ≤ k → m 7 (m 0 81).toNat + k ≤ 400 → m 10 (m 0 81).toNat = -1 → (∀ j : Int, m 7 (m 0 81).toNat ≤ j → j < m 7 (m 0 81).toNat + k → fc j.toNat = fm (400 * m 0 81 + j).toNat ∧ (0 ≤ fm (400 * m 0 81 + j).toNat ∧ fm (400 * m 0 81 + j).toNat ≤ 40)) → RunI B p a b (layC c (sdA (m 0 81)) (c (sdA (m 0 81)) 4) k fc wh (c (sdA (m 0 81)) 6)) (layM m (m 0 81) (m 7 (m 0 81).toNat) k fm wh) rv n ∧ rF a b c (layC c (sdA (m 0 81)) (c (sdA (m 0 81)) 4) k fc wh (c (sdA (m 0 81)) 6)) ∧ rM m (layM m (m 0 81) (m 7 (m 0 81).toNat) k fm wh) ∧ (∀ t, 51 ≤ t → t ≤ 54 → layM m (m 0 81) (m 7 (m 0 81).toNat) k fm wh t = m t) ∧ layM m (m 0 81) (m 7 (m 0 81).toNat) k fm wh 0 79 = m 0 79 := by
    intro k wh fc fm k1 k4 kl kf
    refine fin _ _ (RY_lay hY hab' cu.2 ⟨k1, k4⟩ kl kf) ?_ ?_ ?_ ?_ ?_
    · exact fun i j x _ _ => by rw [layC_o (by omega) (by omega) (by omega)]
    · exact fun i j x y z _ _ _ _ _ _ => by rw [layM_o x y z]
    · exact fun t t1 t2 => layM_o (by omega) (by omega) (by omega)
    · rw [layC_o (by omega) (by omega) (by omega)]; exact ⟨rfl, rfl, rfl⟩
    · rw [layM_o (by decide) (by decide) (by decide)]; exact ⟨rfl, rfl⟩
  unfold plC2 plM2
  rw [s0, s2, s8, cu.1]
  by_cases g0 : m 30 i.toNat = 0
  · rw [if_pos g0, if_pos g0]
    refine fin _ _ (RY_side hY hab' (by have := w.2.1 g0; omega)) ?_ ?_ ?_ ?_ ?_
    · exact fun i j x y z => by rw [iu_ap, if_neg (by omega)]
    · exact fun i j _ _ _ _ _ _ _ _ y => by rw [iu_ap, if_neg (by omega)]
    · exact fun t t1 t2 => iu_row (by omega)
    · exact ⟨iu_k (by decide), iu_k (by decide), iu_k (by decide)⟩
    · exact ⟨iu_k (by decide), iu_k (by decide)⟩
  rw [if_neg g0, if_neg g0]
  by_cases g1 : m 30 i.toNat = 1
  · rw [if_pos g1, if_pos g1]
    have := w1 g1
    exact lay _ _ _ _ (w.2.2.1 g1).1 this.2 this.1 (fun j _ _ => ⟨rfl, by decide, by decide⟩)
  rw [if_neg g1, if_neg g1]
  by_cases g2 : m 30 i.toNat = 2
  · rw [if_pos g2, if_pos g2]
    obtain ⟨u1, u2, u3, u4⟩ := w2 g2
    obtain ⟨v1, v2, v3, v4⟩ := w.2.2.2.2.1 g2
    have sn := rs.1
    clear w w1 w2 w3 w4 h10 wf hk hw g0 g1 nb
    have l := (rs.2.1 (m 31 i.toNat) u1.1 (by omega)).1.1
    have eB : stB c (p + 2 + i.toNat) = mB m i := by unfold stB mB; rw [s3]
    have eE : stE2 c (p + 2 + i.toNat) = mE m i := by unfold stE2 mE; rw [s4, s2, l]
    have b0 : 0 ≤ mB m i := by unfold mB; split <;> omega
    clear s0 s1 s3 s4 s7 s8 s9 v1 v2 v4
    rw [eE, eB]
    refine lay (mE m i - mB m i) _ _ _ (by omega) (by omega) u3 (fun j j0 j1 => ?_)
    unfold fC fM
    have t1 : ((j.toNat : Nat) : Int) = j := by have := sd.2.1; omega
    have t2 : (((400 * m 0 81 + j).toNat : Nat) : Int) = 400 * m 0 81 + j := by have := sd.2.1; omega
    rw [s2, s5, s6, eE, eB, t1, t2, sd.1]
    have ix : 60 * m 31 i.toNat + mB m i + (400 * m 0 81 + j - (400 * m 0 81 + m 7 (m 0 81).toNat)) = 60 * m 31 i.toNat + (mB m i + (j - m 7 (m 0 81).toNat)) := by omega
    have il : mE m i - mB m i - (400 * m 0 81 + j - (400 * m 0 81 + m 7 (m 0 81).toNat)) = mE m i - (mB m i + (j - m 7 (m 0 81).toNat)) := by omega
    have lv := (rs.2.2 (m 31 i.toNat) u1.1 u1.2).2.2 (mB m i + (j - m 7 (m 0 81).toNat)) (by omega) (by omega)
    rw [ix, il, lv.1]
    exact ⟨rfl, fdS_r lv.2 (by omega) (by omega)⟩
  rw [if_neg g2, if_neg g2]
  by_cases g3 : m 30 i.toNat = 3
  · rw [if_pos g3, if_pos g3]
    obtain ⟨u1, u2, u3⟩ := w3 g3
    refine fin _ _ (RY_lock hY hab' cu.2 u3 ⟨u1.1.1, u1.1.2, u1.2⟩) ?_ ?_ ?_ ?_ ?_
    · exact fun i j x y z => by rw [iu_o (by omega)]
    · exact fun i j _ _ _ e _ _ _ _ y => by rw [iu_o e]
    · exact fun t t1 t2 => iu_row (by omega)
    · exact ⟨iu_o (by omega), iu_o (by omega), iu_o (by omega)⟩
    · exact ⟨iu_o (by decide), iu_o (by decide)⟩
  rw [if_neg g3, if_neg g3]
  have g4 : m 30 i.toNat = 4 := by have := w.1; clear w w1 w2 w3 w4 h10; omega
  have nm := w.2.2.2.2.2.1 g4
  clear w w1 w2 w3 w4 h10 s0 s1 s2 s3 s4 s5 s6 s7 s8 s9
  have rk := RY_mark (n := m 41 i.toNat) hY hab (by omega)
  rw [cu.1] at rk
  refine fin _ _ rk ?_ ?_ ?_ ?_ ?_
  · exact fun i j x y z => by rw [iu_o (by omega), iu_o (by omega)]
  · exact fun i j _ _ _ _ _ e f _ _ => by rw [iu_o f, iu_o e]
  · exact fun t t1 t2 => by rw [iu_row (by omega), iu_row (by omega)]
  · refine ⟨?_, ?_, ?_⟩ <;> rw [iu_o (by omega), iu_o (by omega)]
  · refine ⟨?_, ?_⟩ <;> rw [iu_o (by decide), iu_o (by decide)]

