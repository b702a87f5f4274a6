/-! ===== reading in step: what the class and the model have in common ===== -/
def PT (o : Nat) (c m : Nat → Nat → Int) : Prop := TxC c o ∧ TxM m ∧ c o 5 = m 0 44 ∧ (∀ k : Int, 0 ≤ k → k < m 0 44 → c 54 k.toNat = m 29 k.toNat) ∧ c o 6 = m 0 47 ∧ c o 8 = m 0 46 ∧ tkm (c o 7) = m 0 45 ∧ ((c o 7 = 2 ∨ c o 7 = 3) → c o 9 = m 0 48) ∧ (m 0 45 = 3 → 0 ≤ m 0 48 ∧ m 0 48 ≤ 9999) ∧ (m 0 45 = 2 → m 0 46 < m 0 47 ∧ ∀ k : Int, m 0 46 ≤ k → k < m 0 47 → isLt (m 29 k.toNat) = true)
def PF (o : Nat) (c m : Nat → Nat → Int) : Prop := c o 12 = m 0 51 ∧ c o 13 = m 0 50 ∧ 0 ≤ m 0 51
def pk (b : Nat → Int) (a : Int) : Nat → Int
  | 0 => 0
  | k + 1 => 256 * pk b a k + b (a + k).toNat
def PN (o : Nat) (c m : Nat → Nat → Int) : Prop := c o 3 = m 0 71 ∧ (0 ≤ m 0 71 ∧ m 0 71 ≤ 8) ∧ ∀ i : Int, 0 ≤ i → i < m 0 71 → (0 ≤ c (o + 62) i.toNat ∧ 1 ≤ c (o + 63) i.toNat ∧ c (o + 63) i.toNat ≤ 8 ∧ c (o + 62) i.toNat + c (o + 63) i.toNat ≤ m 0 44) ∧ (∀ k : Int, c (o + 62) i.toNat ≤ k → k < c (o + 62) i.toNat + c (o + 63) i.toNat → isLt (m 29 k.toNat) = true) ∧ m 44 i.toNat = pk (m 29) (c (o + 62) i.toNat) (c (o + 63) i.toNat).toNat
def stE (o : Nat) (c m : Nat → Nat → Int) (i : Int) : Prop := c (o + 2 + i.toNat) 0 = m 42 (12 * i + 0).toNat ∧ c (o + 2 + i.toNat) 1 = m 42 (12 * i + 6).toNat ∧ c (o + 2 + i.toNat) 2 = m 42 (12 * i + 1).toNat ∧ c (o + 2 + i.toNat) 3 = m 42 (12 * i + 2).toNat ∧ c (o + 2 + i.toNat) 4 = m 42 (12 * i + 3).toNat ∧ c (o + 2 + i.toNat) 5 = m 42 (12 * i + 4).toNat ∧ c (o + 2 + i.toNat) 6 = m 42 (12 * i + 5).toNat ∧ c (o + 2 + i.toNat) 7 = m 42 (12 * i + 9).toNat ∧ c (o + 2 + i.toNat) 8 = m 42 (12 * i + 11).toNat ∧ c (o + 2 + i.toNat) 9 = b01 (m 42 (12 * i + 10).toNat = 62)
def PS (o : Nat) (c m : Nat → Nat → Int) : Prop := c o 11 = m 0 70 ∧ (0 ≤ m 0 70 ∧ m 0 70 ≤ 60) ∧ (m 0 51 = 0 → ∀ i : Int, 0 ≤ i → i < m 0 70 → stE o c m i)
def PR (o : Nat) (c m : Nat → Nat → Int) : Prop := PT o c m ∧ PF o c m ∧ PN o c m ∧ PS o c m
theorem PT_w {o : Nat} {c m : Nat → Nat → Int} (h : PT o c m) : wC c o = wM m := by
  obtain ⟨h1, h2, h3, h4, h5, h6, h7, h8, h9, h10⟩ := h
  unfold wC wM
  rw [h5, h6, h7]
  exact wn_congr (fun k a b => h4 k (by have := h2.1; omega) (by have := h2.1; omega))
theorem PT_n {o : Nat} {c c' m : Nat → Nat → Int} (ho : isSh o) (h : PT o c m) (f : aF c c' o) (t : tkC c c' o) : PT o c' (nx m) := by
  obtain ⟨⟨r1, b1, q1⟩, ⟨r2, b2⟩, h3, h4, h5, h6, h7, h8, h9, h10⟩ := h
  obtain ⟨t8, t6, t7, t70, t9⟩ := t
  have n54 : (54 : Nat) ≠ o := by rcases ho with e | e <;> subst e <;> decide
  have c54 : c' 54 = c 54 := funext fun j => f 54 j (fun z => n54 z.1)
  have c5 : c' o 5 = c o 5 := f o 5 (by omega)
  have eA : tkA (c 54) (c o 5) (c o 6) = tkA (m 29) (m 0 44) (m 0 47) := by
    rw [h3, h5]; unfold tkA
    exact scN_c (by omega) (fun k a b => h4 k (by omega) b)
  have rA := (scN_r (P := isSp) (b := m 29) (n := m 0 44) (p := m 0 47) (by omega)).1
  have rA : m 0 47 ≤ tkA (m 29) (m 0 44) (m 0 47) ∧ tkA (m 29) (m 0 44) (m 0 47) ≤ m 0 44 := rA
  have n45 : nx m 0 45 = tkT (m 29) (m 0 44) (tkA (m 29) (m 0 44) (m 0 47)) := rfl
  have n46 : nx m 0 46 = tkA (m 29) (m 0 44) (m 0 47) := rfl
  have n47 : nx m 0 47 = tkE (m 29) (m 0 44) (tkA (m 29) (m 0 44) (m 0 47)) := rfl
  have n48 : nx m 0 48 = tkV (m 29) (m 0 44) (tkA (m 29) (m 0 44) (m 0 47)) := rfl
  have n44 : nx m 0 44 = m 0 44 := rfl
  have n29 : nx m 29 = m 29 := rfl
  rw [eA] at t8
  rw [t8, h3] at t6 t7 t9
  generalize hA : tkA (m 29) (m 0 44) (m 0 47) = a at *
  have ba : a < m 0 44 → c 54 a.toNat = m 29 a.toNat := fun z => h4 a (by omega) z
  have cc : ∀ k : Int, a ≤ k → k < m 0 44 → c 54 k.toNat = m 29 k.toNat := fun k p q => h4 k (by omega) q
  have eE : tkE (c 54) (m 0 44) a = tkE (m 29) (m 0 44) a := by
    unfold tkE
    by_cases z : m 0 44 ≤ a
    · rw [if_pos z, if_pos z]
    · rw [if_neg z, if_neg z, ba (by omega), scN_c (P := isLt) (by omega) cc, scN_c (P := isDg) (by omega) cc]
  have eT : tkT (c 54) (m 0 44) a = tkT (m 29) (m 0 44) a := by
    unfold tkT
    by_cases z : m 0 44 ≤ a
    · rw [if_pos z, if_pos z]
    · rw [if_neg z, if_neg z, ba (by omega), scN_c (P := isDg) (by omega) cc]
  have rL := scN_r (P := isLt) (b := m 29) (n := m 0 44) (p := a) (by omega)
  have rD := scN_r (P := isDg) (b := m 29) (n := m 0 44) (p := a) (by omega)
  have rE : a ≤ tkE (m 29) (m 0 44) a ∧ tkE (m 29) (m 0 44) a ≤ m 0 44 := by
    unfold tkE
    split
    · omega
    · split
      · exact rL.1
      · split
        · exact rD.1
        · omega
  have t33 : ∀ x : Int, 0 ≤ x → x ≤ 4 → (tkm x = 3 ↔ x = 2) := by
    intro x p q; unfold tkm
    split <;> (try split) <;> (try split) <;> (try split) <;> omega
  have mdc : ∀ k : Nat, (∀ j : Int, a ≤ j → j < a + k → c 54 j.toNat = m 29 j.toNat) → mdv (c 54) a k = mdv (m 29) a k := by
    intro k
    induction k with
    | zero => intro _; rfl
    | succ k ih => intro hh; unfold mdv; rw [ih (fun j p q => hh j p (by omega)), hh (a + k) (by omega) (by omega)]
  have eV : tkV (c 54) (m 0 44) a = tkV (m 29) (m 0 44) a := by
    unfold tkV
    by_cases z : m 0 44 ≤ a
    · rw [if_pos z, if_pos z]
    · rw [if_neg z, if_neg z, ba (by omega), scN_c (P := isDg) (by omega) cc, mdc _ (fun j p q => cc j p (by omega))]
  rw [eE] at t6
  rw [eT] at t7
  rw [eV] at t9
  refine ⟨⟨by rw [t8, t6, c5, h3]; omega, by rw [c54]; exact b1, t70⟩, ⟨by rw [n46, n47, n44]; omega, by rw [n29]; exact b2⟩, by rw [c5, n44]; exact h3, by rw [c54, n44, n29]; exact h4, by rw [n47]; exact t6, by rw [n46]; exact t8, by rw [n45]; exact t7, by rw [n48]; exact t9, ?_, ?_⟩
  · rw [n45, n48]
    intro z
    unfold tkT at z
    unfold tkV
    split at z
    · omega
    · rename_i g1
      rw [if_neg g1]
      split at z
      · omega
      · split at z
        · rename_i g3
          rw [if_pos g3]
          split at z
          · omega
          · rename_i g4
            refine mdv_9 (by omega) (fun j p q => rD.2 j p (by omega))
        · split at z <;> omega
  · rw [n45, n46, n47, n29]
    intro z
    unfold tkT at z
    unfold tkE
    split at z
    · omega
    · rename_i g1
      rw [if_neg g1]
      split at z
      · rename_i g2
        rw [if_pos g2]
        exact ⟨scN_gt (by omega) g2, rL.2⟩
      · split at z
        · split at z <;> omega
        · split at z <;> omega

