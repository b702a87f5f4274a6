/-! ===== two spirals beside one another: what least places are ===== -/
def inK (k0 k1 r p : Int) : Prop := (r = 0 ∧ 0 ≤ p ∧ p < k0) ∨ (r = 1 ∧ 0 ≤ p ∧ p < k1)
def edg (c : Int → Int → Int) (land feed r p r' p' w : Int) : Prop := (r' = r ∧ p' = p - 1 ∧ w = -feed) ∨ (r' = r ∧ p' = p + 1 ∧ w = 0) ∨ (r' = r ∧ p' = p + 8 ∧ w = c r p + c r (p + 8) + land) ∨ (r = 0 ∧ r' = 1 ∧ p' = p ∧ w = c 0 p + c 1 p + land) ∨ (r = 1 ∧ r' = 0 ∧ p' = p + 8 ∧ w = c 1 p + c 0 (p + 8) + land)
def SolB (k0 k1 : Int) (c : Int → Int → Int) (land feed : Int) (x : Int → Int → Int) : Prop := (∀ r p, inK k0 k1 r p → 0 ≤ x r p) ∧ ∀ r p r' p' w, inK k0 k1 r p → inK k0 k1 r' p' → edg c land feed r p r' p' w → x r p + w ≤ x r' p'
def LstB (k0 k1 : Int) (c : Int → Int → Int) (land feed : Int) (x : Int → Int → Int) : Prop := SolB k0 k1 c land feed x ∧ ∀ y, SolB k0 k1 c land feed y → ∀ r p, inK k0 k1 r p → x r p ≤ y r p
theorem SolB.restrict {n0 n1 k0 k1 : Int} {c : Int → Int → Int} {land feed : Int} {x : Int → Int → Int} (h : SolB n0 n1 c land feed x) (a : k0 ≤ n0) (b : k1 ≤ n1) : SolB k0 k1 c land feed x := by
  have m : ∀ r p, inK k0 k1 r p → inK n0 n1 r p := fun r p q => by unfold inK at *; omega
  exact ⟨fun r p q => h.1 r p (m r p q), fun r p r' p' w q q' e => h.2 r p r' p' w (m _ _ q) (m _ _ q') e⟩
theorem SolB.up {k0 k1 : Int} {c : Int → Int → Int} {land feed : Int} {x : Int → Int → Int} (h : SolB k0 k1 c land feed x) {r : Int} : ∀ (m : Nat) (p : Int), inK k0 k1 r p → inK k0 k1 r (p + m) → x r p ≤ x r (p + m)
  | 0, p, _, _ => by rw [show p + ((0 : Nat) : Int) = p by omega]; exact Int.le_refl _
  | m + 1, p, a, b => by
    have i : inK k0 k1 r (p + m) := by unfold inK at *; omega
    have ih := h.up m p a i
    have e := h.2 r (p + m) r (p + m + 1) 0 i (by rw [show p + m + 1 = p + ((m + 1 : Nat) : Int) by omega]; exact b) (Or.inr (Or.inl ⟨rfl, rfl, rfl⟩))
    rw [show p + ((m + 1 : Nat) : Int) = p + m + 1 by omega]
    omega
/-- what is asked of the levels and the rules -/
def cOk (n0 n1 : Int) (c : Int → Int → Int) (land feed : Int) : Prop := (1 ≤ land ∧ land ≤ 20) ∧ (1 ≤ feed ∧ feed ≤ 20) ∧ ∀ r p, inK n0 n1 r p → 0 ≤ c r p ∧ c r p ≤ 40
theorem edg_w {n0 n1 : Int} {c : Int → Int → Int} {land feed r p r' p' w : Int} (h : cOk n0 n1 c land feed) (a : inK n0 n1 r p) (b : inK n0 n1 r' p') (e : edg c land feed r p r' p' w) : -20 ≤ w ∧ w ≤ 100 := by
  have c1 := h.2.2 r p a
  have c2 := h.2.2 r' p' b
  have l := h.1
  have f := h.2.1
  rcases e with ⟨-, -, e⟩ | ⟨-, -, e⟩ | ⟨e1, e2, e⟩ | ⟨e0, e1, e2, e⟩ | ⟨e0, e1, e2, e⟩
  · omega
  · omega
  · subst e1 e2; omega
  · subst e0 e1 e2; omega
  · subst e0 e1 e2; omega
/-- the newest may be added: it is the next of its row, and no known one lies behind it across -/
def nxt (k0 k1 r p : Int) : Prop := (r = 0 ∧ p = k0 ∧ k1 ≤ p ∧ 0 ≤ p ∧ 0 ≤ k1) ∨ (r = 1 ∧ p = k1 ∧ k0 ≤ p + 1 ∧ 0 ≤ p ∧ 0 ≤ k0)
def kp0 (k0 r : Int) : Int := if r = 0 then k0 + 1 else k0
def kp1 (k1 r : Int) : Int := if r = 0 then k1 else k1 + 1
theorem inK_n {k0 k1 r p s q : Int} (h : nxt k0 k1 r p) : inK (kp0 k0 r) (kp1 k1 r) s q ↔ (inK k0 k1 s q ∨ (s = r ∧ q = p)) := by
  unfold nxt at h
  unfold inK kp0 kp1
  by_cases z : r = 0
  · rw [if_pos z, if_pos z]; omega
  · rw [if_neg z, if_neg z]; omega
/-- what the known ones ask of a node -/
def askB (k0 k1 : Int) (c : Int → Int → Int) (land feed : Int) (x : Int → Int → Int) (r p A : Int) : Prop := 0 ≤ A ∧ (∀ s q w, inK k0 k1 s q → edg c land feed s q r p w → x s q + w ≤ A) ∧ (A = 0 ∨ ∃ s q w, inK k0 k1 s q ∧ edg c land feed s q r p w ∧ A = x s q + w)
theorem edg_out {k0 k1 : Int} {c : Int → Int → Int} {land feed r p s q w : Int} (h : nxt k0 k1 r p) (b : inK k0 k1 s q) (e : edg c land feed r p s q w) : s = r ∧ q = p - 1 ∧ w = -feed := by
  unfold nxt at h
  unfold inK at b
  unfold edg at e
  omega
theorem ask_ub {k0 k1 n0 n1 : Int} {c : Int → Int → Int} {land feed : Int} {x : Int → Int → Int} {r p A : Int} (hc : cOk n0 n1 c land feed) (hn : k0 ≤ n0 ∧ k1 ≤ n1) (hz : inK n0 n1 r p) (h : nxt k0 k1 r p) (hL : LstB k0 k1 c land feed x) (hA : askB k0 k1 c land feed x r p A) (p1 : 1 ≤ p) : A ≤ x r (p - 1) + feed + 200 := by
  have hS := hL.1
  have mK : ∀ s q, inK k0 k1 s q → inK n0 n1 s q := fun s q a => by unfold inK at *; omega
  have iP : inK k0 k1 r (p - 1) := by unfold nxt at h; unfold inK; omega
  have f := hc.2.1
  have xp := hS.1 r (p - 1) iP
  rcases hA.2.2 with e | ⟨s, q, w, iK, ed, eA⟩
  · omega
  · have wb := edg_w hc (mK _ _ iK) hz ed
    have ed0 := ed
    rcases ed with ⟨e1, e2, e3⟩ | ⟨e1, e2, e3⟩ | ⟨e1, e2, e3⟩ | ⟨e0, e1, e2, e3⟩ | ⟨e0, e1, e2, e3⟩
    · exfalso; unfold nxt at h; unfold inK at iK; omega
    · have : q = p - 1 := by omega
      subst this; rw [← e1] at eA; omega
    · -- from the part a turn ahead in the same row
      have u := hS.up (r := r) 7 (p - 8) (by unfold inK at *; omega) (by rw [show p - 8 + ((7 : Nat) : Int) = p - 1 by omega]; exact iP)
      rw [show p - 8 + ((7 : Nat) : Int) = p - 1 by omega] at u
      have : q = p - 8 := by omega
      subst this; rw [← e1] at eA; omega
    · -- row 1, from row 0 at the same part
      subst e0 e1
      have : q = p := by omega
      subst this
      have i1 : inK k0 k1 0 (q - 1) := by unfold nxt at h; unfold inK at *; omega
      have a1 := hS.2 0 q 0 (q - 1) (-feed) iK i1 (Or.inl ⟨rfl, rfl, rfl⟩)
      have a2 := hS.2 0 (q - 1) 1 (q - 1) _ i1 iP (Or.inr (Or.inr (Or.inr (Or.inl ⟨rfl, rfl, rfl, rfl⟩))))
      have c1 := hc.2.2 0 (q - 1) (mK _ _ i1)
      have c2 := hc.2.2 1 (q - 1) (mK _ _ iP)
      have l := hc.1
      omega
    · -- row 0, from row 1 a turn ahead
      subst e0 e1
      have hq : q = p - 8 := by omega
      subst hq
      by_cases g : p = 8
      · subst g
        have key := hL.2 (fun s q => if s = 0 then x s q else min (x s q) (x 0 7 + 100)) ⟨fun s q a => ?_, fun s q s' q' w a b e => ?_⟩ 1 0 iK
        · have e8 : (8 : Int) - 8 = 0 := by omega
          rw [e8] at eA
          rw [show (8 : Int) - 1 = 7 by omega]
          rw [if_neg (by omega)] at key
          omega
        · dsimp only
          have := hS.1 s q a
          have := hS.1 0 7 iP
          split <;> omega
        · dsimp only
          have t := hS.2 s q s' q' w a b e
          have wb := edg_w hc (mK _ _ a) (mK _ _ b) e
          have bb : inK k0 k1 s' q' := b
          unfold nxt at h
          by_cases z1 : s = 0
          · by_cases z2 : s' = 0
            · rw [if_pos z1, if_pos z2]; exact t
            · rw [if_pos z1, if_neg z2]
              have up : x 0 q ≤ x 0 7 := by
                have i7 : inK k0 k1 0 q := by rw [← z1]; exact a
                have u := hS.up (r := 0) (7 - q).toNat q i7 (by rw [show q + (((7 - q).toNat : Nat) : Int) = 7 by unfold inK at i7; omega]; exact iP)
                rw [show q + (((7 - q).toNat : Nat) : Int) = 7 by unfold inK at i7; omega] at u
                exact u
              rw [z1] at t ⊢
              omega
          · by_cases z2 : s' = 0
            · exfalso
              unfold inK at a b
              unfold edg at e
              omega
            · rw [if_neg z1, if_neg z2]
              have wl : w ≤ 0 := by
                unfold inK at a b
                unfold edg at e
                rcases e with e | e | e | e | e <;> omega
              omega
      · have i1 : inK k0 k1 1 (p - 9) := by unfold inK at *; unfold nxt at h; omega
        have a1 := hS.2 1 (p - 8) 1 (p - 9) (-feed) iK i1 (Or.inl ⟨rfl, by omega, rfl⟩)
        have a2 := hS.2 1 (p - 9) 0 (p - 1) (c 1 (p - 9) + c 0 (p - 9 + 8) + land) i1 iP (Or.inr (Or.inr (Or.inr (Or.inr ⟨rfl, rfl, by omega, rfl⟩))))
        have c1 := hc.2.2 1 (p - 9) (mK _ _ i1)
        have c2 := hc.2.2 0 (p - 1) (mK _ _ iP)
        rw [show p - 9 + 8 = p - 1 by omega] at a2
        have l := hc.1
        omega
theorem wEx {k0 k1 n0 n1 : Int} {c : Int → Int → Int} {land feed : Int} {x T : Int → Int → Int} {r p A : Int} (hc : cOk n0 n1 c land feed) (hn : k0 ≤ n0 ∧ k1 ≤ n1) (hz : inK n0 n1 r p) (h : nxt k0 k1 r p) (hL : LstB k0 k1 c land feed x) (hA : askB k0 k1 c land feed x r p A) (hT : SolB (kp0 k0 r) (kp1 k1 r) c land feed T) : ∃ W : Int → Int → Int, SolB (kp0 k0 r) (kp1 k1 r) c land feed W ∧ W r p = A ∧ ∀ s q, inK k0 k1 s q → x s q ≤ W s q ∧ W s q ≤ x s q + 200 := by
  have hS := hL.1
  have nz : ¬ inK k0 k1 r p := by unfold nxt at h; unfold inK; omega
  have mI : ∀ s q, inK k0 k1 s q → inK (kp0 k0 r) (kp1 k1 r) s q := fun s q a => (inK_n h).mpr (Or.inl a)
  have mZ : inK (kp0 k0 r) (kp1 k1 r) r p := (inK_n h).mpr (Or.inr ⟨rfl, rfl⟩)
  have xT : ∀ s q, inK k0 k1 s q → x s q ≤ T s q := fun s q a => hL.2 T ⟨fun s q b => hT.1 s q (mI s q b), fun s q s' q' w b b' e => hT.2 s q s' q' w (mI _ _ b) (mI _ _ b') e⟩ s q a
  have D0 : A ≤ T r p := by
    rcases hA.2.2 with e | ⟨s, q, w, iK, ed, eA⟩
    · have := hT.1 r p mZ; omega
    · have a1 := hT.2 s q r p w (mI _ _ iK) mZ ed
      have a2 := xT s q iK
      omega
  refine ⟨fun s q => if s = r ∧ q = p then A else min (max (x s q) (T s q - (T r p - A))) (x s q + 200), ⟨fun s q a => ?_, fun s q s' q' w a b e => ?_⟩, if_pos ⟨rfl, rfl⟩, fun s q a => ?_⟩
  · dsimp only
    split
    · exact hA.1
    · rename_i g
      have := hS.1 s q (((inK_n h).mp a).resolve_right g)
      omega
  · dsimp only
    by_cases g1 : s = r ∧ q = p
    · rw [if_pos g1]
      by_cases g2 : s' = r ∧ q' = p
      · exfalso
        unfold edg at e
        unfold nxt at h
        have := hc.2.1
        omega
      · rw [if_neg g2]
        have iK := ((inK_n h).mp b).resolve_right g2
        rw [g1.1, g1.2] at e a
        obtain ⟨o1, o2, o3⟩ := edg_out h iK e
        have t := hT.2 r p s' q' w a b e
        have p1 : 1 ≤ p := by unfold inK at iK; unfold nxt at h; omega
        have ub := ask_ub hc hn hz h hL hA p1
        rw [o1, o2] at t ⊢
        omega
    · rw [if_neg g1]
      have iK := ((inK_n h).mp a).resolve_right g1
      by_cases g2 : s' = r ∧ q' = p
      · rw [if_pos g2]
        rw [g2.1, g2.2] at e b
        have a1 := hA.2.1 s q w iK e
        have a2 := hT.2 s q r p w a b e
        omega
      · rw [if_neg g2]
        have iK' := ((inK_n h).mp b).resolve_right g2
        have a1 := hS.2 s q s' q' w iK iK' e
        have a2 := hT.2 s q s' q' w a b e
        omega
  · dsimp only
    rw [if_neg (fun g => nz (by rw [← g.1, ← g.2]; exact a))]
    omega

