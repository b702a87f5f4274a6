/-! ===== the two worlds beside one another ===== -/
def RS (c m : Nat → Nat → Int) : Prop := (c 10 3 = m 0 4 ∧ 0 ≤ m 0 4 ∧ m 0 4 ≤ 10) ∧ (∀ s : Int, 0 ≤ s → s < 10 → (c 12 s.toNat = m 4 s.toNat ∧ c 13 s.toNat = m 5 s.toNat) ∧ (0 ≤ m 4 s.toNat ∧ m 4 s.toNat ≤ 60)) ∧ (∀ s : Int, 0 ≤ s → s < m 0 4 → 1 ≤ m 4 s.toNat ∧ (0 ≤ m 5 s.toNat ∧ m 5 s.toNat ≤ 9) ∧ ∀ k : Int, 0 ≤ k → k < m 4 s.toNat → c 11 (60 * s + k).toNat = m 6 (60 * s + k).toNat ∧ (0 ≤ m 6 (60 * s + k).toNat ∧ m 6 (60 * s + k).toNat ≤ 40))
def RR (B : Int) (c m : Nat → Nat → Int) : Prop := (c 14 0 = m 0 5 ∧ c 14 1 = m 0 6) ∧ ((1 ≤ m 0 5 ∧ m 0 5 ≤ 20) ∧ (1 ≤ m 0 6 ∧ m 0 6 ≤ 20)) ∧ (0 ≤ c 14 2 ∧ c 14 2 ≤ B)
def RD (c m : Nat → Nat → Int) (s : Int) : Prop := c (sdA s) 4 = m 7 s.toNat ∧ (0 ≤ m 7 s.toNat ∧ m 7 s.toNat ≤ 400) ∧ c (sdA s) 5 = m 10 s.toNat ∧ (m 10 s.toNat = -1 ∨ (m 7 s.toNat ≠ 0 ∧ (0 ≤ m 10 s.toNat ∧ m 10 s.toNat < m 0 4 ∧ 8 ≤ m 4 (m 10 s.toNat).toNat))) ∧ ∀ k : Int, 0 ≤ k → k < m 7 s.toNat → (c (sdA s + 1) k.toNat = m 8 (400 * s + k).toNat ∧ c (sdA s + 2) k.toNat = m 9 (400 * s + k).toNat) ∧ (0 ≤ m 8 (400 * s + k).toNat ∧ m 8 (400 * s + k).toNat ≤ 40)
def SK (c : Nat → Nat → Int) (o : Nat) : Prop := c o 7 ≤ c o 6 + c 14 2 ∧ cacheC c o
/-- the sheet that stands -/
def bM (m : Nat → Nat → Int) : Nat → Int := fun j => m (30 + j % 12) (j / 12)
theorem bM_at {m : Nat → Nat → Int} {i w : Int} (hi : 0 ≤ i) (hw : 0 ≤ w ∧ w < 12) : bM m (12 * i + w).toNat = m (30 + w.toNat) i.toNat := by
  unfold bM
  have a : (12 * i + w).toNat % 12 = w.toNat := by omega
  have b : (12 * i + w).toNat / 12 = i.toNat := by omega
  rw [a, b]
theorem bM_0 {m : Nat → Nat → Int} {i : Int} (hi : 0 ≤ i) : bM m (12 * i).toNat = m 30 i.toNat := by
  have := bM_at (m := m) (i := i) (w := 0) hi (by omega)
  rw [show 12 * i + 0 = 12 * i by omega] at this; exact this
def stR (p : Nat) (c m : Nat → Nat → Int) (i : Int) : Prop := c (p + 2 + i.toNat) 0 = m 30 i.toNat ∧ c (p + 2 + i.toNat) 1 = m 36 i.toNat ∧ c (p + 2 + i.toNat) 2 = m 31 i.toNat ∧ c (p + 2 + i.toNat) 3 = m 32 i.toNat ∧ c (p + 2 + i.toNat) 4 = m 33 i.toNat ∧ c (p + 2 + i.toNat) 5 = m 34 i.toNat ∧ c (p + 2 + i.toNat) 6 = m 35 i.toNat ∧ c (p + 2 + i.toNat) 7 = m 39 i.toNat ∧ c (p + 2 + i.toNat) 8 = m 41 i.toNat ∧ c (p + 2 + i.toNat) 9 = b01 (m 40 i.toNat = 62)
def ShR (p : Nat) (c : Nat → Nat → Int) (rv : Nat → Nat → Option Nat) (m : Nat → Nat → Int) : Prop := isSh p ∧ (0 ≤ m 0 68 ∧ m 0 68 ≤ 60) ∧ (0 ≤ m 0 69 ∧ m 0 69 ≤ 8) ∧ Blk p rv (bM m) 4 0 (m 0 68) ∧ rv p 10 = hd p 0 (m 0 68) ∧ ∀ i : Int, 0 ≤ i → i < m 0 68 → stR p c m i ∧ WF1 (bM m) i ∧ m 41 i.toNat < m 0 69
def mkR (a b : Nat) (c m : Nat → Nat → Int) : Prop := ∀ n : Int, 0 ≤ n → n < 8 → c a n.toNat = m 47 n.toNat ∧ (¬ m 47 n.toNat = -1 → c b n.toNat = m 48 n.toNat) ∧ (m 0 69 ≤ n → m 47 n.toNat = -1)
/-! ===== what follows ===== -/
theorem okSd_of {B : Int} {c m : Nat → Nat → Int} {s : Int} (hB : B ≤ 100000000) (r : RR B c m) (h : RD c m s) (h6 : 0 ≤ c (sdA s) 6 ∧ c (sdA s) 6 ≤ 100000000) : okSd c (sdA s) := by
  obtain ⟨⟨r1, r2⟩, r3, r4⟩ := r
  obtain ⟨a1, a2, a3, a4, a5⟩ := h
  refine ⟨sdA_is s, by omega, by omega, fun k k0 k1 => ?_, by omega, by omega⟩
  have := a5 k k0 (by omega)
  omega
theorem okSide_of {B : Int} {c m : Nat → Nat → Int} {s : Int} (hs : 0 ≤ s ∧ s ≤ 1) (r : RR B c m) (h : RD c m s) : okSide m s := by
  obtain ⟨⟨r1, r2⟩, r3, r4⟩ := r
  obtain ⟨a1, a2, a3, a4, a5⟩ := h
  exact ⟨hs, a2, r3, fun k k0 k1 => (a5 k k0 k1).2⟩
theorem near_eq {B : Int} {c m : Nat → Nat → Int} {s : Int} (r : RR B c m) (h : RD c m s) : nearC c (sdA s) 40 = stuckM m s := by
  obtain ⟨⟨r1, r2⟩, r3, r4⟩ := r
  obtain ⟨a1, a2, a3, a4, a5⟩ := h
  unfold nearC stuckM
  rw [a1]
  refine ffirst_congr _ _ (fun k k0 k1 => ?_)
  have e := a5 k (by omega) (by omega)
  have f := a5 (k - 8) (by omega) (by omega)
  rw [e.1.1, f.1.1]
  omega
theorem lv_eq {c m : Nat → Nat → Int} {s : Int} (h : RD c m s) : ∀ k : Int, 0 ≤ k → k < c (sdA s) 4 → c (sdA s + 1) k.toNat = m 8 (400 * s + k).toNat := fun k a b => (h.2.2.2.2 k a (by rw [← h.1]; exact b)).1.1
/-- the least places are alike -/
theorem pl_eq {B : Int} {c m v : Nat → Nat → Int} {s : Int} (r : RR B c m) (h : RD c m s) (l : leastC c (sdA s)) (l' : leastM m v s) : ∀ k : Int, 0 ≤ k → k < m 7 s.toNat → c (sdA s + 3) k.toNat = v 15 (400 * s + k).toNat := by
  unfold leastC at l
  unfold leastM at l'
  rw [h.1, r.1.1, r.1.2] at l
  exact Least.uniq (fun k a b => lv_eq h k a (by rw [h.1]; exact b)) l l'
theorem room_eq {B : Int} {c m : Nat → Nat → Int} {s r : Int} (rr : RR B c m) (h : RD c m s) (l : leastC c (sdA s)) (l' : roomM m s r) : roomC c (sdA s) = r := by
  have a2 := h.2.1
  unfold roomC
  rcases l' with ⟨n0, r0⟩ | ⟨np, p, lp, ep⟩
  · rw [if_pos (by rw [h.1]; exact n0), r0]
  · rw [if_neg (by rw [h.1]; omega), h.1]
    unfold leastC at l
    rw [h.1, rr.1.1, rr.1.2] at l
    have e1 := Least.uniq (fun k a b => lv_eq h k a (by rw [h.1]; exact b)) l lp (m 7 s.toNat - 1) (by omega) (by omega)
    have e2 := lv_eq h (m 7 s.toNat - 1) (by omega) (by rw [h.1]; omega)
    rw [e1, e2, ep]
/-! ===== parts laid: what the rows hold ===== -/
theorem layC_1 {iv : Nat → Nat → Int} {o : Nat} {n m w c : Int} {f : Nat → Int} {j : Nat} : layC iv o n m f w c (o + 1) j = if n.toNat ≤ j ∧ j < (n + m).toNat then f j else iv (o + 1) j := by
  unfold layC
  rw [iu_o (by omega), iu_o (by omega), imap_row (by omega), imap_ap]
  by_cases g : n.toNat ≤ j ∧ j < (n + m).toNat
  · rw [if_pos ⟨rfl, g⟩, if_pos g]
  · rw [if_neg (fun z => g z.2), if_neg g]
theorem layC_2 {iv : Nat → Nat → Int} {o : Nat} {n m w c : Int} {f : Nat → Int} {j : Nat} : layC iv o n m f w c (o + 2) j = if n.toNat ≤ j ∧ j < (n + m).toNat then w else iv (o + 2) j := by
  unfold layC
  rw [iu_o (by omega), iu_o (by omega), imap_ap]
  by_cases g : n.toNat ≤ j ∧ j < (n + m).toNat
  · rw [if_pos ⟨rfl, g⟩, if_pos g]
  · rw [if_neg (fun z => g z.2), if_neg g, imap_row (by omega)]
theorem layC_j {iv : Nat → Nat → Int} {o : Nat} {n m w c : Int} {f : Nat → Int} {j : Nat} (h4 : j ≠ 4) (h6 : j ≠ 6) : layC iv o n m f w c o j = iv o j := by
  unfold layC
  rw [iu_k h6, iu_k h4, imap_row (by omega), imap_row (by omega)]
theorem layM_8 {iv : Nat → Nat → Int} {s n m w : Int} {f : Nat → Int} {j : Nat} : layM iv s n m f w 8 j = if (400 * s + n).toNat ≤ j ∧ j < (400 * s + n + m).toNat then f j else iv 8 j := by
  unfold layM
  rw [iu_o (by decide), imap_row (by decide), imap_ap]
  by_cases g : (400 * s + n).toNat ≤ j ∧ j < (400 * s + n + m).toNat
  · rw [if_pos ⟨rfl, g⟩, if_pos g]
  · rw [if_neg (fun z => g z.2), if_neg g]
theorem layM_9 {iv : Nat → Nat → Int} {s n m w : Int} {f : Nat → Int} {j : Nat} : layM iv s n m f w 9 j = if (400 * s + n).toNat ≤ j ∧ j < (400 * s + n + m).toNat then w else iv 9 j := by
  unfold layM
  rw [iu_o (by decide), imap_ap]
  by_cases g : (400 * s + n).toNat ≤ j ∧ j < (400 * s + n + m).toNat
  · rw [if_pos ⟨rfl, g⟩, if_pos g]
  · rw [if_neg (fun z => g z.2), if_neg g, imap_row (by decide)]
theorem layM_7o {iv : Nat → Nat → Int} {s n m w : Int} {f : Nat → Int} {j : Nat} (h : j ≠ s.toNat) : layM iv s n m f w 7 j = iv 7 j := by
  unfold layM
  rw [iu_k h, imap_row (by decide), imap_row (by decide)]
theorem RD_lay {c m : Nat → Nat → Int} {s k w x : Int} {fc fm : Nat → Int} (hs : s = 0 ∨ s = 1) (h : RD c m s) (hk : 0 ≤ k ∧ m 7 s.toNat + k ≤ 400) (hl : m 10 s.toNat = -1) (hf : ∀ j : Int, m 7 s.toNat ≤ j → j < m 7 s.toNat + k → fc j.toNat = fm (400 * s + j).toNat ∧ (0 ≤ fm (400 * s + j).toNat ∧ fm (400 * s + j).toNat ≤ 40)) : RD (layC c (sdA s) (m 7 s.toNat) k fc w x) (layM m s (m 7 s.toNat) k fm w) s := by
  obtain ⟨a1, a2, a3, a4, a5⟩ := h
  refine ⟨by rw [layC_4, layM_7], by rw [layM_7]; omega, ?_, Or.inl (by rw [layM_o (i := 10) (by decide) (by decide) (by decide)]; exact hl), fun j j0 j1 => ?_⟩
  · rw [layC_j (by decide) (by decide), layM_o (i := 10) (by decide) (by decide) (by decide)]; exact a3
  · rw [layM_7] at j1
    rw [layC_1, layC_2, layM_8, layM_9]
    by_cases g : m 7 s.toNat ≤ j
    · rw [if_pos (by omega), if_pos (by omega), if_pos (by omega), if_pos (by omega)]
      have := hf j g j1
      exact ⟨⟨this.1, rfl⟩, this.2⟩
    · rw [if_neg (by omega), if_neg (by omega), if_neg (by omega), if_neg (by omega)]
      exact a5 j j0 (by omega)
/-- a side is not seen where its rows stay -/
theorem RD_f {c c' m m' : Nat → Nat → Int} {s : Int} (h : RD c m s) (hc : ∀ i j, (i = sdA s ∧ (j = 4 ∨ j = 5)) ∨ i = sdA s + 1 ∨ i = sdA s + 2 → c' i j = c i j) (h7 : m' 7 s.toNat = m 7 s.toNat) (h10 : m' 10 s.toNat = m 10 s.toNat) (h8 : ∀ k : Int, 0 ≤ k → k < m 7 s.toNat → m' 8 (400 * s + k).toNat = m 8 (400 * s + k).toNat ∧ m' 9 (400 * s + k).toNat = m 9 (400 * s + k).toNat) (h4 : m' 0 4 = m 0 4) (hl : ∀ q : Int, 0 ≤ q → q < m 0 4 → m' 4 q.toNat = m 4 q.toNat) : RD c' m' s := by
  obtain ⟨a1, a2, a3, a4, a5⟩ := h
  unfold RD
  rw [h7, h10, h4]
  refine ⟨by rw [hc _ _ (by omega)]; exact a1, a2, by rw [hc _ _ (by omega)]; exact a3, ?_, fun k k0 k1 => ?_⟩
  · rcases a4 with e | e
    · exact Or.inl e
    · rw [hl _ (by omega) (by omega)]; exact Or.inr e
  · rw [hc _ _ (by omega), hc _ _ (by omega), (h8 k k0 k1).1, (h8 k k0 k1).2]
    exact a5 k k0 k1
theorem RS_f {c c' m m' : Nat → Nat → Int} (h : RS c m) (hc : ∀ i j, (i = 10 ∧ j = 3) ∨ i = 11 ∨ i = 12 ∨ i = 13 → c' i j = c i j) (hm : ∀ i j, (i = 0 ∧ j = 4) ∨ i = 4 ∨ i = 5 ∨ i = 6 → m' i j = m i j) : RS c' m' := by
  have e11 : c' 11 = c 11 := funext fun j => hc 11 j (by omega)
  have e12 : c' 12 = c 12 := funext fun j => hc 12 j (by omega)
  have e13 : c' 13 = c 13 := funext fun j => hc 13 j (by omega)
  have f4 : m' 4 = m 4 := funext fun j => hm 4 j (by omega)
  have f5 : m' 5 = m 5 := funext fun j => hm 5 j (by omega)
  have f6 : m' 6 = m 6 := funext fun j => hm 6 j (by omega)
  unfold RS
  rw [e11, e12, e13, f4, f5, f6, hc 10 3 (by omega), hm 0 4 (by omega)]
  exact h
theorem RR_f {B : Int} {c c' m m' : Nat → Nat → Int} (h : RR B c m) (hc : ∀ j, c' 14 j = c 14 j) (h5 : m' 0 5 = m 0 5) (h6 : m' 0 6 = m 0 6) : RR B c' m' := by
  unfold RR
  rw [hc, hc, hc, h5, h6]; exact h
theorem RR_B {B B' : Int} {c m : Nat → Nat → Int} (h : RR B c m) (hB : B ≤ B') : RR B' c m := ⟨h.1, h.2.1, h.2.2.1, by have := h.2.2.2; omega⟩
theorem bM_f {m m' : Nat → Nat → Int} (hm : ∀ i j, 30 ≤ i → i ≤ 41 → m' i j = m i j) : bM m' = bM m := by
  funext j
  unfold bM
  exact hm _ _ (by omega) (by omega)
theorem ShR_f {p : Nat} {c c' m m' : Nat → Nat → Int} {rv rv' : Nat → Nat → Option Nat} (h : ShR p c rv m) (hc : ∀ i j, p + 2 ≤ i → i < p + 62 → c' i j = c i j) (hr : ∀ i j, p ≤ i → i < p + 62 → rv' i j = rv i j) (hm : ∀ i j, (30 ≤ i ∧ i ≤ 41) ∨ (i = 0 ∧ (j = 68 ∨ j = 69)) → m' i j = m i j) : ShR p c' rv' m' := by
  obtain ⟨a1, a2, a3, a4, a5, a6⟩ := h
  have eb := bM_f (m := m) (m' := m') (fun i j a b => hm i j (by omega))
  unfold ShR
  rw [hm 0 68 (by omega), hm 0 69 (by omega), eb, hr p 10 (by omega) (by omega)]
  refine ⟨a1, a2, a3, ?_, a5, fun i i0 i1 => ?_⟩
  · exact Blk_c 4 _ _ a4 (by omega) (fun i il ir => ⟨fun j => hr _ j (by omega) (by omega), rfl, rfl, rfl⟩)
  · obtain ⟨b1, b2, b3⟩ := a6 i i0 i1
    refine ⟨?_, b2, by rw [hm 41 _ (by omega)]; exact b3⟩
    unfold stR at *
    have e : ∀ j, c' (p + 2 + i.toNat) j = c (p + 2 + i.toNat) j := fun j => hc _ j (by omega) (by omega)
    have g : ∀ r, 30 ≤ r → r ≤ 41 → m' r i.toNat = m r i.toNat := fun r a b => hm r _ (by omega)
    rw [e, e, e, e, e, e, e, e, e, e, g 30 (by omega) (by omega), g 31 (by omega) (by omega), g 32 (by omega) (by omega), g 33 (by omega) (by omega), g 34 (by omega) (by omega), g 35 (by omega) (by omega), g 36 (by omega) (by omega), g 39 (by omega) (by omega), g 40 (by omega) (by omega), g 41 (by omega) (by omega)]
    exact b1
theorem mkR_f {a b : Nat} {c c' m m' : Nat → Nat → Int} (h : mkR a b c m) (hc : ∀ i j, i = a ∨ i = b → c' i j = c i j) (hm : ∀ i j, i = 47 ∨ i = 48 ∨ (i = 0 ∧ j = 69) → m' i j = m i j) : mkR a b c' m' := by
  intro n n0 n1
  rw [hc a _ (by omega), hc b _ (by omega), hm 47 _ (by omega), hm 48 _ (by omega), hm 0 69 (by omega)]
  exact h n n0 n1
/-! ===== the cache of a side ===== -/
theorem nearC_f {c c' : Nat → Nat → Int} {o : Nat} {x : Int} (h0 : c' o 4 = c o 4) (h1 : c' (o + 1) = c (o + 1)) (h14 : c' 14 = c 14) : nearC c' o x = nearC c o x := by unfold nearC; rw [h0, h1, h14]
theorem leastC_f {c c' : Nat → Nat → Int} {o : Nat} (h0 : c' o 4 = c o 4) (h1 : c' (o + 1) = c (o + 1)) (h3 : c' (o + 3) = c (o + 3)) (h14 : c' 14 = c 14) : leastC c' o = leastC c o := by unfold leastC; rw [h0, h1, h3, h14]
theorem SK_f {c c' : Nat → Nat → Int} {o : Nat} (h : SK c o) (hc : ∀ i j, (i = o ∧ (j = 4 ∨ j = 6 ∨ j = 7 ∨ j = 8)) ∨ i = o + 1 ∨ i = o + 3 ∨ i = 14 → c' i j = c i j) : SK c' o := by
  have e1 : c' (o + 1) = c (o + 1) := funext fun j => hc _ j (by omega)
  have e3 : c' (o + 3) = c (o + 3) := funext fun j => hc _ j (by omega)
  have e14 : c' 14 = c 14 := funext fun j => hc _ j (by omega)
  have e4 : c' o 4 = c o 4 := hc _ _ (by omega)
  unfold SK cacheC
  rw [nearC_f e4 e1 e14, leastC_f e4 e1 e3 e14, e14, hc o 6 (by omega), hc o 7 (by omega), hc o 8 (by omega)]
  exact h
/-- a change makes what was settled old -/
theorem SK_n {c c' : Nat → Nat → Int} {o : Nat} (h : c o 7 ≤ c o 6 + c 14 2) (h7 : c' o 7 = c o 7) (hl : c o 6 + c 14 2 < c' o 6 + c' 14 2) : SK c' o := ⟨by omega, fun e => by omega⟩
theorem SK_st {c v : Nat → Nat → Int} {o : Nat} (h : stQ c v o) (k : SK c o) (ho : isSd o) : SK v o := by
  rcases h with e | ⟨f, a, b, l⟩
  · rw [e]; exact k
  · have d14 : o ≠ 14 ∧ o + 3 ≠ 14 := by unfold isSd at ho; omega
    have e1 : v (o + 1) = c (o + 1) := funext fun j => f _ j (by omega) (by omega)
    have e14 : v 14 = c 14 := funext fun j => f _ j (by omega) (by omega)
    have e4 : v o 4 = c o 4 := f _ _ (by omega) (by omega)
    have e6 : v o 6 = c o 6 := f _ _ (by omega) (by omega)
    refine ⟨by rw [a, e6, e14]; omega, fun _ => ?_⟩
    rw [nearC_f e4 e1 e14]
    exact ⟨b, l⟩

