/-! ===== tokens ===== -/
def isSp (x : Int) : Bool := decide (x = 10 ∨ x = 32)
def isLt (x : Int) : Bool := decide (97 ≤ x ∧ x ≤ 122)
def isDg (x : Int) : Bool := decide (48 ≤ x ∧ x ≤ 57)
def isSg (x : Int) : Bool := decide (x = 123 ∨ x = 125 ∨ x = 59 ∨ x = 60 ∨ x = 62)
def scn (P : Int → Bool) (b : Nat → Int) : Int → Nat → Int
  | p, 0 => p
  | p, m + 1 => if P (b p.toNat) = true then scn P b (p + 1) m else p
/-- the first place from p on that is not so, or n -/
def scN (P : Int → Bool) (b : Nat → Int) (n p : Int) : Int := scn P b p (n - p).toNat
theorem scN_t {P : Int → Bool} {b : Nat → Int} {n p : Int} (h : p < n) (c : P (b p.toNat) = true) : scN P b n p = scN P b n (p + 1) := by
  unfold scN
  rw [show (n - p).toNat = (n - (p + 1)).toNat + 1 by omega]
  conv => lhs; unfold scn
  rw [if_pos c]
theorem scN_f {P : Int → Bool} {b : Nat → Int} {n p : Int} (c : ¬ (p < n ∧ P (b p.toNat) = true)) : scN P b n p = p := by
  unfold scN
  by_cases h : p < n
  · rw [show (n - p).toNat = (n - (p + 1)).toNat + 1 by omega]
    unfold scn
    rw [if_neg (fun z => c ⟨h, z⟩)]
  · rw [show (n - p).toNat = 0 by omega]; rfl
theorem scn_r {P : Int → Bool} {b : Nat → Int} : ∀ (m : Nat) (p : Int), (p ≤ scn P b p m ∧ scn P b p m ≤ p + m) ∧ ∀ k : Int, p ≤ k → k < scn P b p m → P (b k.toNat) = true
  | 0, p => ⟨by unfold scn; omega, fun k a c => by unfold scn at c; omega⟩
  | m + 1, p => by
    unfold scn
    by_cases h : P (b p.toNat) = true
    · rw [if_pos h]
      have ih := scn_r (P := P) (b := b) m (p + 1)
      refine ⟨by omega, fun k a c => ?_⟩
      by_cases e : k = p
      · rw [e]; exact h
      · exact ih.2 k (by omega) c
    · rw [if_neg h]; exact ⟨by omega, fun k a c => by omega⟩
theorem scN_r {P : Int → Bool} {b : Nat → Int} {n p : Int} (h : p ≤ n) : (p ≤ scN P b n p ∧ scN P b n p ≤ n) ∧ ∀ k : Int, p ≤ k → k < scN P b n p → P (b k.toNat) = true := by
  have := scn_r (P := P) (b := b) (n - p).toNat p
  unfold scN
  exact ⟨by omega, this.2⟩
theorem scN_gt {P : Int → Bool} {b : Nat → Int} {n p : Int} (h : p < n) (c : P (b p.toNat) = true) : p < scN P b n p := by
  rw [scN_t h c]
  have := (scN_r (P := P) (b := b) (n := n) (p := p + 1) (by omega)).1
  omega
theorem scN_c {P : Int → Bool} {b b' : Nat → Int} {n p : Int} (h : p ≤ n) (hb : ∀ k : Int, p ≤ k → k < n → b k.toNat = b' k.toNat) : scN P b n p = scN P b' n p := by
  have key : ∀ (m : Nat) (p : Int), (n - p).toNat = m → p ≤ n → (∀ k : Int, p ≤ k → k < n → b k.toNat = b' k.toNat) → scN P b n p = scN P b' n p := by
    intro m
    induction m with
    | zero => intro p e1 e2 _; rw [scN_f (by omega), scN_f (by omega)]
    | succ m ih =>
      intro p e1 e2 hb
      have e := hb p (Int.le_refl _) (by omega)
      by_cases c : P (b p.toNat) = true
      · rw [scN_t (b := b) (p := p) (by omega) c, scN_t (b := b') (p := p) (by omega) (by rw [← e]; exact c)]
        exact ih (p + 1) (by omega) (by omega) (fun k a d => hb k (by omega) d)
      · rw [scN_f (b := b) (p := p) (fun z => c z.2), scN_f (b := b') (p := p) (fun z => c (by rw [e]; exact z.2))]
  exact key _ p rfl h hb
/-- the number that the model makes of digits -/
def mdv (b : Nat → Int) (a : Int) : Nat → Int
  | 0 => 0
  | k + 1 => min 100000 (10 * mdv b a k + b (a + k).toNat - 48)
def tkA (b : Nat → Int) (n p : Int) : Int := scN isSp b n p
def tkE (b : Nat → Int) (n a : Int) : Int := if n ≤ a then a else if isLt (b a.toNat) = true then scN isLt b n a else if isDg (b a.toNat) = true then scN isDg b n a else a + 1
def tkT (b : Nat → Int) (n a : Int) : Int := if n ≤ a then 0 else if isLt (b a.toNat) = true then 2 else if isDg (b a.toNat) = true then (if 4 < scN isDg b n a - a then 1 else 3) else if isSg (b a.toNat) = true then 4 else 1
def tkV (b : Nat → Int) (n a : Int) : Int := if n ≤ a then -1 else if isDg (b a.toNat) = true then mdv b a (scN isDg b n a - a).toNat else b a.toNat % 256
/-- the model's state with the next token -/
def nx (m : Nat → Nat → Int) : Nat → Nat → Int := iu (iu (iu (iu m 0 46 (tkA (m 29) (m 0 44) (m 0 47))) 0 48 (tkV (m 29) (m 0 44) (tkA (m 29) (m 0 44) (m 0 47)))) 0 47 (tkE (m 29) (m 0 44) (tkA (m 29) (m 0 44) (m 0 47)))) 0 45 (tkT (m 29) (m 0 44) (tkA (m 29) (m 0 44) (m 0 47)))
def bOK (b : Nat → Int) : Prop := ∀ k : Int, 0 ≤ k → k < 600 → -128 ≤ b k.toNat ∧ b k.toNat ≤ 127
theorem sg_is {b : Nat → Int} {n k : Int} (hb : bOK b) (hn : n ≤ 600) (hk : 0 ≤ k) (c : Int) (hc : 0 ≤ c ∧ c ≤ 127) : sgn b n k = c ↔ (k < n ∧ b k.toNat = c) := by
  unfold sgn
  split
  · rename_i g
    have := hb k hk (by omega)
    constructor
    · intro e; exact ⟨g, by omega⟩
    · intro e; omega
  · rename_i g; exact ⟨fun e => by omega, fun e => absurd e.1 g⟩
set_option maxRecDepth 20000 in
theorem sX12_next_0 {G : ZG} {d : Nat} {iv : Nat → Nat → Int} {K : Option AV → AH → Prop} (h : (0 ≤ (iv 0 47)) ∧ ((iv 0 44 ≤ 600) ∧ ((∀ k : Int, 0 ≤ k → k < 600 → -128 ≤ iv 29 k.toNat ∧ iv 29 k.toNat ≤ 127) ∧ (((sgn (iv 29) (iv 0 44) (iv 0 47)) = 32 → ((-2147483648 ≤ ((iv 0 47) + 1) ∧ ((iv 0 47) + 1) ≤ 2147483647) ∧ (Z G mX12_next (d + 1) 0 0 0 [vr (some 0), vu] [] (mkM (iu iv 0 47 ((iv 0 47) + 1))) K))) ∧ (¬ (sgn (iv 29) (iv 0 44) (iv 0 47)) = 32 → ((0 ≤ (iv 0 47)) ∧ ((iv 0 44 ≤ 600) ∧ ((∀ k : Int, 0 ≤ k → k < 600 → -128 ≤ iv 29 k.toNat ∧ iv 29 k.toNat ≤ 127) ∧ ((¬ (sgn (iv 29) (iv 0 44) (iv 0 47)) = 10 → (Z G mX12_next (d + 1) 0 0 39 [vr (some 0), vu] [] (mkM iv) K)) ∧ ((sgn (iv 29) (iv 0 44) (iv 0 47)) = 10 → ((-2147483648 ≤ ((iv 0 47) + 1) ∧ ((iv 0 47) + 1) ≤ 2147483647) ∧ (Z G mX12_next (d + 1) 0 0 0 [vr (some 0), vu] [] (mkM (iu iv 0 47 ((iv 0 47) + 1))) K)))))))))))) : Z G mX12_next (d + 1) 0 0 0 [vr (some 0), vu] [] (mkM iv) K := (Z_aload_n (dX12_next 0) rfl (Z_aload_n (dX12_next 1) rfl (Z_gIM (x := (iv 0 47)) (dX12_next 2) lk_X12_364 sM0 (Or.inl rfl) rfl (Z_cVM (As := [vi (iv 0 47)]) (S := []) (dX12_next 3) lk_X12_367 sM0 (by decide) rfl rfl (Nat.le_of_ble_eq_true rfl) (Nat.le_of_ble_eq_true rfl) (M_sign  h.1 h.2.1 h.2.2.1 ((Z_bipush (dX12_next 4) ⟨by decide, by decide⟩ (Z_icmp_eq (dX12_next 5) rfl (fun c1 => (Z_aload_n (dX12_next 12) rfl (Z_dup (dX12_next 13) rfl (Z_gIM (x := (iv 0 47)) (dX12_next 14) lk_X12_364 sM0 (Or.inl rfl) rfl (Z_iconst (dX12_next 15) ⟨by decide, by decide⟩ (Z_iadd (dX12_next 16) (h.2.2.2.1 c1).1 (Z_putIM (dX12_next 17) lk_X12_364 sM0 rfl (Or.inl rfl) (Z_goto (dX12_next 18) rfl (h.2.2.2.1 c1).2)))))))) (fun c2 => (Z_aload_n (dX12_next 6) rfl (Z_aload_n (dX12_next 7) rfl (Z_gIM (x := (iv 0 47)) (dX12_next 8) lk_X12_364 sM0 (Or.inl rfl) rfl (Z_cVM (As := [vi (iv 0 47)]) (S := []) (dX12_next 9) lk_X12_367 sM0 (by decide) rfl rfl (Nat.le_of_ble_eq_true rfl) (Nat.le_of_ble_eq_true rfl) (M_sign  (h.2.2.2.2 c2).1 (h.2.2.2.2 c2).2.1 (h.2.2.2.2 c2).2.2.1 ((Z_bipush (dX12_next 10) ⟨by decide, by decide⟩ (Z_icmp_ne (dX12_next 11) rfl (fun c3 => ((h.2.2.2.2 c2).2.2.2.1 c3)) (fun c4 => (Z_aload_n (dX12_next 12) rfl (Z_dup (dX12_next 13) rfl (Z_gIM (x := (iv 0 47)) (dX12_next 14) lk_X12_364 sM0 (Or.inl rfl) rfl (Z_iconst (dX12_next 15) ⟨by decide, by decide⟩ (Z_iadd (dX12_next 16) ((h.2.2.2.2 c2).2.2.2.2 c4).1 (Z_putIM (dX12_next 17) lk_X12_364 sM0 rfl (Or.inl rfl) (Z_goto (dX12_next 18) rfl ((h.2.2.2.2 c2).2.2.2.2 c4).2)))))))))))))))))))))))))
set_option maxRecDepth 20000 in
theorem sX12_next_39 {G : ZG} {d : Nat} {iv : Nat → Nat → Int} {K : Option AV → AH → Prop} (h : (0 ≤ (iv 0 47)) ∧ (((iu iv 0 46 (iv 0 47)) 0 44 ≤ 600) ∧ ((∀ k : Int, 0 ≤ k → k < 600 → -128 ≤ (iu iv 0 46 (iv 0 47)) 29 k.toNat ∧ (iu iv 0 46 (iv 0 47)) 29 k.toNat ≤ 127) ∧ ((¬ (sgn ((iu iv 0 46 (iv 0 47)) 29) ((iu iv 0 46 (iv 0 47)) 0 44) (iv 0 47)) = (-1) → ((¬ (97 ≤ (sgn ((iu iv 0 46 (iv 0 47)) 29) ((iu iv 0 46 (iv 0 47)) 0 44) (iv 0 47)) ∧ (sgn ((iu iv 0 46 (iv 0 47)) 29) ((iu iv 0 46 (iv 0 47)) 0 44) (iv 0 47)) ≤ 122) → ((¬ (48 ≤ (sgn ((iu iv 0 46 (iv 0 47)) 29) ((iu iv 0 46 (iv 0 47)) 0 44) (iv 0 47)) ∧ (sgn ((iu iv 0 46 (iv 0 47)) 29) ((iu iv 0 46 (iv 0 47)) 0 44) (iv 0 47)) ≤ 57) → ((-2147483648 ≤ ((iv 0 47) + 1) ∧ ((iv 0 47) + 1) ≤ 2147483647) ∧ (((sgn ((iu iv 0 46 (iv 0 47)) 29) ((iu iv 0 46 (iv 0 47)) 0 44) (iv 0 47)) = 123 → (K none (mkM (iu (iu (iu (iu iv 0 46 (iv 0 47)) 0 48 (sgn ((iu iv 0 46 (iv 0 47)) 29) ((iu iv 0 46 (iv 0 47)) 0 44) (iv 0 47))) 0 47 ((iv 0 47) + 1)) 0 45 4)))) ∧ (¬ (sgn ((iu iv 0 46 (iv 0 47)) 29) ((iu iv 0 46 (iv 0 47)) 0 44) (iv 0 47)) = 123 → (((sgn ((iu iv 0 46 (iv 0 47)) 29) ((iu iv 0 46 (iv 0 47)) 0 44) (iv 0 47)) = 125 → (K none (mkM (iu (iu (iu (iu iv 0 46 (iv 0 47)) 0 48 (sgn ((iu iv 0 46 (iv 0 47)) 29) ((iu iv 0 46 (iv 0 47)) 0 44) (iv 0 47))) 0 47 ((iv 0 47) + 1)) 0 45 4)))) ∧ (¬ (sgn ((iu iv 0 46 (iv 0 47)) 29) ((iu iv 0 46 (iv 0 47)) 0 44) (iv 0 47)) = 125 → (((sgn ((iu iv 0 46 (iv 0 47)) 29) ((iu iv 0 46 (iv 0 47)) 0 44) (iv 0 47)) = 59 → (K none (mkM (iu (iu (iu (iu iv 0 46 (iv 0 47)) 0 48 (sgn ((iu iv 0 46 (iv 0 47)) 29) ((iu iv 0 46 (iv 0 47)) 0 44) (iv 0 47))) 0 47 ((iv 0 47) + 1)) 0 45 4)))) ∧ (¬ (sgn ((iu iv 0 46 (iv 0 47)) 29) ((iu iv 0 46 (iv 0 47)) 0 44) (iv 0 47)) = 59 → (((sgn ((iu iv 0 46 (iv 0 47)) 29) ((iu iv 0 46 (iv 0 47)) 0 44) (iv 0 47)) = 60 → (K none (mkM (iu (iu (iu (iu iv 0 46 (iv 0 47)) 0 48 (sgn ((iu iv 0 46 (iv 0 47)) 29) ((iu iv 0 46 (iv 0 47)) 0 44) (iv 0 47))) 0 47 ((iv 0 47) + 1)) 0 45 4)))) ∧ (¬ (sgn ((iu iv 0 46 (iv 0 47)) 29) ((iu iv 0 46 (iv 0 47)) 0 44) (iv 0 47)) = 60 → ((¬ (sgn ((iu iv 0 46 (iv 0 47)) 29) ((iu iv 0 46 (iv 0 47)) 0 44) (iv 0 47)) = 62 → (K none (mkM (iu (iu (iu (iu iv 0 46 (iv 0 47)) 0 48 (sgn ((iu iv 0 46 (iv 0 47)) 29) ((iu iv 0 46 (iv 0 47)) 0 44) (iv 0 47))) 0 47 ((iv 0 47) + 1)) 0 45 1)))) ∧ ((sgn ((iu iv 0 46 (iv 0 47)) 29) ((iu iv 0 46 (iv 0 47)) 0 44) (iv 0 47)) = 62 → (K none (mkM (iu (iu (iu (iu iv 0 46 (iv 0 47)) 0 48 (sgn ((iu iv 0 46 (iv 0 47)) 29) ((iu iv 0 46 (iv 0 47)) 0 44) (iv 0 47))) 0 47 ((iv 0 47) + 1)) 0 45 4))))))))))))))) ∧ (48 ≤ (sgn ((iu iv 0 46 (iv 0 47)) 29) ((iu iv 0 46 (iv 0 47)) 0 44) (iv 0 47)) ∧ (sgn ((iu iv 0 46 (iv 0 47)) 29) ((iu iv 0 46 (iv 0 47)) 0 44) (iv 0 47)) ≤ 57 → (Z G mX12_next (d + 1) 0 0 128 [vr (some 0), vu] [] (mkM (iu (iu (iu iv 0 46 (iv 0 47)) 0 48 (sgn ((iu iv 0 46 (iv 0 47)) 29) ((iu iv 0 46 (iv 0 47)) 0 44) (iv 0 47))) 0 48 0)) K)))) ∧ (97 ≤ (sgn ((iu iv 0 46 (iv 0 47)) 29) ((iu iv 0 46 (iv 0 47)) 0 44) (iv 0 47)) ∧ (sgn ((iu iv 0 46 (iv 0 47)) 29) ((iu iv 0 46 (iv 0 47)) 0 44) (iv 0 47)) ≤ 122 → (Z G mX12_next (d + 1) 0 0 81 [vr (some 0), vu] [] (mkM (iu (iu iv 0 46 (iv 0 47)) 0 48 (sgn ((iu iv 0 46 (iv 0 47)) 29) ((iu iv 0 46 (iv 0 47)) 0 44) (iv 0 47)))) K)))) ∧ ((sgn ((iu iv 0 46 (iv 0 47)) 29) ((iu iv 0 46 (iv 0 47)) 0 44) (iv 0 47)) = (-1) → (K none (mkM (iu (iu (iu iv 0 46 (iv 0 47)) 0 48 (sgn ((iu iv 0 46 (iv 0 47)) 29) ((iu iv 0 46 (iv 0 47)) 0 44) (iv 0 47))) 0 45 0)))))))) : Z G mX12_next (d + 1) 0 0 39 [vr (some 0), vu] [] (mkM iv) K := (Z_aload_n (dX12_next 19) rfl (Z_aload_n (dX12_next 20) rfl (Z_gIM (x := (iv 0 47)) (dX12_next 21) lk_X12_364 sM0 (Or.inl rfl) rfl (Z_putIM (dX12_next 22) lk_X12_370 sM0 rfl (Or.inl rfl) (Z_aload_n (dX12_next 23) rfl (Z_aload_n (dX12_next 24) rfl (Z_gIM (x := (iv 0 47)) (dX12_next 25) lk_X12_364 sM0 (Or.inl rfl) ((iu_k (by decide)).trans rfl) (Z_cVM (As := [vi (iv 0 47)]) (S := []) (dX12_next 26) lk_X12_367 sM0 (by decide) rfl rfl (Nat.le_of_ble_eq_true rfl) (Nat.le_of_ble_eq_true rfl) (M_sign  h.1 h.2.1 h.2.2.1 ((Z_istore_n (dX12_next 27) (Nat.le_of_ble_eq_true rfl) rfl (Z_aload_n (dX12_next 28) rfl (Z_iload_n (dX12_next 29) rfl (Z_putIM (dX12_next 30) lk_X12_373 sM0 rfl (Or.inl rfl) (Z_iload_n (dX12_next 31) rfl (Z_iconst (dX12_next 32) ⟨by decide, by decide⟩ (Z_icmp_ne (dX12_next 33) rfl (fun c1 => (Z_iload_n (dX12_next 38) rfl (Z_cS (As := [vi (sgn ((iu iv 0 46 (iv 0 47)) 29) ((iu iv 0 46 (iv 0 47)) 0 44) (iv 0 47))]) (S := []) (dX12_next 39) lk_X12_379 rfl (Nat.le_of_ble_eq_true rfl) (Nat.le_of_ble_eq_true rfl) (M_isSmall  ((Z_if_eq (dX12_next 40) rfl (fun c3 => (Z_iload_n (dX12_next 58) rfl (Z_cS (As := [vi (sgn ((iu iv 0 46 (iv 0 47)) 29) ((iu iv 0 46 (iv 0 47)) 0 44) (iv 0 47))]) (S := []) (dX12_next 59) lk_X12_382 rfl (Nat.le_of_ble_eq_true rfl) (Nat.le_of_ble_eq_true rfl) (M_isDigit  ((Z_if_eq (dX12_next 60) rfl (fun c5 => (Z_aload_n (dX12_next 105) rfl (Z_dup (dX12_next 106) rfl (Z_gIM (x := (iv 0 47)) (dX12_next 107) lk_X12_364 sM0 (Or.inl rfl) ((iu_k (by decide)).trans ((iu_k (by decide)).trans rfl)) (Z_iconst (dX12_next 108) ⟨by decide, by decide⟩ (Z_iadd (dX12_next 109) (((h.2.2.2.1 c1).1 (b01_0.mp c3)).1 (b01_0.mp c5)).1 (Z_putIM (dX12_next 110) lk_X12_364 sM0 rfl (Or.inl rfl) (Z_aload_n (dX12_next 111) rfl (Z_iload_n (dX12_next 112) rfl (Z_bipush (dX12_next 113) ⟨by decide, by decide⟩ (Z_icmp_eq (dX12_next 114) rfl (fun c7 => (Z_iconst (dX12_next 127) ⟨by decide, by decide⟩ (Z_goto (dX12_next 128) rfl (Z_putIM (dX12_next 130) lk_X12_376 sM0 rfl (Or.inl rfl) (Z_return (dX12_next 131) rfl ((((h.2.2.2.1 c1).1 (b01_0.mp c3)).1 (b01_0.mp c5)).2.1 c7)))))) (fun c8 => (Z_iload_n (dX12_next 115) rfl (Z_bipush (dX12_next 116) ⟨by decide, by decide⟩ (Z_icmp_eq (dX12_next 117) rfl (fun c9 => (Z_iconst (dX12_next 127) ⟨by decide, by decide⟩ (Z_goto (dX12_next 128) rfl (Z_putIM (dX12_next 130) lk_X12_376 sM0 rfl (Or.inl rfl) (Z_return (dX12_next 131) rfl (((((h.2.2.2.1 c1).1 (b01_0.mp c3)).1 (b01_0.mp c5)).2.2 c8).1 c9)))))) (fun c10 => (Z_iload_n (dX12_next 118) rfl (Z_bipush (dX12_next 119) ⟨by decide, by decide⟩ (Z_icmp_eq (dX12_next 120) rfl (fun c11 => (Z_iconst (dX12_next 127) ⟨by decide, by decide⟩ (Z_goto (dX12_next 128) rfl (Z_putIM (dX12_next 130) lk_X12_376 sM0 rfl (Or.inl rfl) (Z_return (dX12_next 131) rfl ((((((h.2.2.2.1 c1).1 (b01_0.mp c3)).1 (b01_0.mp c5)).2.2 c8).2 c10).1 c11)))))) (fun c12 => (Z_iload_n (dX12_next 121) rfl (Z_bipush (dX12_next 122) ⟨by decide, by decide⟩ (Z_icmp_eq (dX12_next 123) rfl (fun c13 => (Z_iconst (dX12_next 127) ⟨by decide, by decide⟩ (Z_goto (dX12_next 128) rfl (Z_putIM (dX12_next 130) lk_X12_376 sM0 rfl (Or.inl rfl) (Z_return (dX12_next 131) rfl (((((((h.2.2.2.1 c1).1 (b01_0.mp c3)).1 (b01_0.mp c5)).2.2 c8).2 c10).2 c12).1 c13)))))) (fun c14 => (Z_iload_n (dX12_next 124) rfl (Z_bipush (dX12_next 125) ⟨by decide, by decide⟩ (Z_icmp_ne (dX12_next 126) rfl (fun c15 => (Z_iconst (dX12_next 129) ⟨by decide, by decide⟩ (Z_putIM (dX12_next 130) lk_X12_376 sM0 rfl (Or.inl rfl) (Z_return (dX12_next 131) rfl ((((((((h.2.2.2.1 c1).1 (b01_0.mp c3)).1 (b01_0.mp c5)).2.2 c8).2 c10).2 c12).2 c14).1 c15))))) (fun c16 => (Z_iconst (dX12_next 127) ⟨by decide, by decide⟩ (Z_goto (dX12_next 128) rfl (Z_putIM (dX12_next 130) lk_X12_376 sM0 rfl (Or.inl rfl) (Z_return (dX12_next 131) rfl ((((((((h.2.2.2.1 c1).1 (b01_0.mp c3)).1 (b01_0.mp c5)).2.2 c8).2 c10).2 c12).2 c14).2 c16))))))))))))))))))))))))))))))))) (fun c6 => (Z_aload_n (dX12_next 61) rfl (Z_iconst (dX12_next 62) ⟨by decide, by decide⟩ (Z_putIM (dX12_next 63) lk_X12_373 sM0 rfl (Or.inl rfl) (Z.fg (L' := [vr (some 0), vu]) (L := [vr (some 0), vi (sgn ((iu iv 0 46 (iv 0 47)) 29) ((iu iv 0 46 (iv 0 47)) 0 44) (iv 0 47))]) ⟨Or.inl rfl, ⟨Or.inr rfl, trivial⟩⟩ (((h.2.2.2.1 c1).1 (b01_0.mp c3)).2 (b01_n.mp c6))))))))))))) (fun c4 => (Z.fg (L' := [vr (some 0), vu]) (L := [vr (some 0), vi (sgn ((iu iv 0 46 (iv 0 47)) 29) ((iu iv 0 46 (iv 0 47)) 0 44) (iv 0 47))]) ⟨Or.inl rfl, ⟨Or.inr rfl, trivial⟩⟩ ((h.2.2.2.1 c1).2 (b01_n.mp c4)))))))))) (fun c2 => (Z_aload_n (dX12_next 34) rfl (Z_iconst (dX12_next 35) ⟨by decide, by decide⟩ (Z_putIM (dX12_next 36) lk_X12_376 sM0 rfl (Or.inl rfl) (Z_goto (dX12_next 37) rfl (Z_return (dX12_next 131) rfl (h.2.2.2.2 c2))))))))))))))))))))))))
set_option maxRecDepth 20000 in
theorem sX12_next_81 {G : ZG} {d : Nat} {iv : Nat → Nat → Int} {K : Option AV → AH → Prop} (h : (0 ≤ (iv 0 47)) ∧ ((iv 0 44 ≤ 600) ∧ ((∀ k : Int, 0 ≤ k → k < 600 → -128 ≤ iv 29 k.toNat ∧ iv 29 k.toNat ≤ 127) ∧ ((¬ (97 ≤ (sgn (iv 29) (iv 0 44) (iv 0 47)) ∧ (sgn (iv 29) (iv 0 44) (iv 0 47)) ≤ 122) → (K none (mkM (iu iv 0 45 2)))) ∧ (97 ≤ (sgn (iv 29) (iv 0 44) (iv 0 47)) ∧ (sgn (iv 29) (iv 0 44) (iv 0 47)) ≤ 122 → ((-2147483648 ≤ ((iv 0 47) + 1) ∧ ((iv 0 47) + 1) ≤ 2147483647) ∧ (Z G mX12_next (d + 1) 0 0 81 [vr (some 0), vu] [] (mkM (iu iv 0 47 ((iv 0 47) + 1))) K))))))) : Z G mX12_next (d + 1) 0 0 81 [vr (some 0), vu] [] (mkM iv) K := (Z_aload_n (dX12_next 41) rfl (Z_aload_n (dX12_next 42) rfl (Z_gIM (x := (iv 0 47)) (dX12_next 43) lk_X12_364 sM0 (Or.inl rfl) rfl (Z_cVM (As := [vi (iv 0 47)]) (S := []) (dX12_next 44) lk_X12_367 sM0 (by decide) rfl rfl (Nat.le_of_ble_eq_true rfl) (Nat.le_of_ble_eq_true rfl) (M_sign  h.1 h.2.1 h.2.2.1 ((Z_cS (As := [vi (sgn (iv 29) (iv 0 44) (iv 0 47))]) (S := []) (dX12_next 45) lk_X12_379 rfl (Nat.le_of_ble_eq_true rfl) (Nat.le_of_ble_eq_true rfl) (M_isSmall  ((Z_if_eq (dX12_next 46) rfl (fun c1 => (Z_aload_n (dX12_next 54) rfl (Z_iconst (dX12_next 55) ⟨by decide, by decide⟩ (Z_putIM (dX12_next 56) lk_X12_376 sM0 rfl (Or.inl rfl) (Z_goto (dX12_next 57) rfl (Z_return (dX12_next 131) rfl (h.2.2.2.1 (b01_0.mp c1)))))))) (fun c2 => (Z_aload_n (dX12_next 47) rfl (Z_dup (dX12_next 48) rfl (Z_gIM (x := (iv 0 47)) (dX12_next 49) lk_X12_364 sM0 (Or.inl rfl) rfl (Z_iconst (dX12_next 50) ⟨by decide, by decide⟩ (Z_iadd (dX12_next 51) (h.2.2.2.2 (b01_n.mp c2)).1 (Z_putIM (dX12_next 52) lk_X12_364 sM0 rfl (Or.inl rfl) (Z_goto (dX12_next 53) rfl (h.2.2.2.2 (b01_n.mp c2)).2))))))))))))))))))
set_option maxRecDepth 20000 in
theorem sX12_next_128 {G : ZG} {d : Nat} {iv : Nat → Nat → Int} {K : Option AV → AH → Prop} (h : (0 ≤ (iv 0 47)) ∧ ((iv 0 44 ≤ 600) ∧ ((∀ k : Int, 0 ≤ k → k < 600 → -128 ≤ iv 29 k.toNat ∧ iv 29 k.toNat ≤ 127) ∧ ((¬ (48 ≤ (sgn (iv 29) (iv 0 44) (iv 0 47)) ∧ (sgn (iv 29) (iv 0 44) (iv 0 47)) ≤ 57) → ((-2147483648 ≤ ((iv 0 47) - (iv 0 46)) ∧ ((iv 0 47) - (iv 0 46)) ≤ 2147483647) ∧ ((((iv 0 47) - (iv 0 46)) ≤ 4 → (K none (mkM (iu iv 0 45 3)))) ∧ (4 < ((iv 0 47) - (iv 0 46)) → (K none (mkM (iu iv 0 45 1))))))) ∧ (48 ≤ (sgn (iv 29) (iv 0 44) (iv 0 47)) ∧ (sgn (iv 29) (iv 0 44) (iv 0 47)) ≤ 57 → ((-2147483648 ≤ (10 * (iv 0 48)) ∧ (10 * (iv 0 48)) ≤ 2147483647) ∧ ((0 ≤ (iv 0 47)) ∧ ((iv 0 44 ≤ 600) ∧ ((∀ k : Int, 0 ≤ k → k < 600 → -128 ≤ iv 29 k.toNat ∧ iv 29 k.toNat ≤ 127) ∧ ((-2147483648 ≤ ((10 * (iv 0 48)) + (sgn (iv 29) (iv 0 44) (iv 0 47))) ∧ ((10 * (iv 0 48)) + (sgn (iv 29) (iv 0 44) (iv 0 47))) ≤ 2147483647) ∧ ((-2147483648 ≤ (((10 * (iv 0 48)) + (sgn (iv 29) (iv 0 44) (iv 0 47))) - 48) ∧ (((10 * (iv 0 48)) + (sgn (iv 29) (iv 0 44) (iv 0 47))) - 48) ≤ 2147483647) ∧ ((-2147483648 ≤ ((iv 0 47) + 1) ∧ ((iv 0 47) + 1) ≤ 2147483647) ∧ (Z G mX12_next (d + 1) 0 0 128 [vr (some 0), vu] [] (mkM (iu (iu iv 0 48 (min 100000 (((10 * (iv 0 48)) + (sgn (iv 29) (iv 0 44) (iv 0 47))) - 48))) 0 47 ((iv 0 47) + 1))) K))))))))))))) : Z G mX12_next (d + 1) 0 0 128 [vr (some 0), vu] [] (mkM iv) K := (Z_aload_n (dX12_next 64) rfl (Z_aload_n (dX12_next 65) rfl (Z_gIM (x := (iv 0 47)) (dX12_next 66) lk_X12_364 sM0 (Or.inl rfl) rfl (Z_cVM (As := [vi (iv 0 47)]) (S := []) (dX12_next 67) lk_X12_367 sM0 (by decide) rfl rfl (Nat.le_of_ble_eq_true rfl) (Nat.le_of_ble_eq_true rfl) (M_sign  h.1 h.2.1 h.2.2.1 ((Z_cS (As := [vi (sgn (iv 29) (iv 0 44) (iv 0 47))]) (S := []) (dX12_next 68) lk_X12_382 rfl (Nat.le_of_ble_eq_true rfl) (Nat.le_of_ble_eq_true rfl) (M_isDigit  ((Z_if_eq (dX12_next 69) rfl (fun c1 => (Z_aload_n (dX12_next 92) rfl (Z_aload_n (dX12_next 93) rfl (Z_gIM (x := (iv 0 47)) (dX12_next 94) lk_X12_364 sM0 (Or.inl rfl) rfl (Z_aload_n (dX12_next 95) rfl (Z_gIM (x := (iv 0 46)) (dX12_next 96) lk_X12_370 sM0 (Or.inl rfl) rfl (Z_isub (dX12_next 97) (h.2.2.2.1 (b01_0.mp c1)).1 (Z_iconst (dX12_next 98) ⟨by decide, by decide⟩ (Z_icmp_le (dX12_next 99) rfl (fun c3 => (Z_iconst (dX12_next 102) ⟨by decide, by decide⟩ (Z_putIM (dX12_next 103) lk_X12_376 sM0 rfl (Or.inl rfl) (Z_goto (dX12_next 104) rfl (Z_return (dX12_next 131) rfl ((h.2.2.2.1 (b01_0.mp c1)).2.1 c3)))))) (fun c4 => (Z_iconst (dX12_next 100) ⟨by decide, by decide⟩ (Z_goto (dX12_next 101) rfl (Z_putIM (dX12_next 103) lk_X12_376 sM0 rfl (Or.inl rfl) (Z_goto (dX12_next 104) rfl (Z_return (dX12_next 131) rfl ((h.2.2.2.1 (b01_0.mp c1)).2.2 c4)))))))))))))))) (fun c2 => (Z_aload_n (dX12_next 70) rfl (Z_ldcw (dX12_next 71) lk_X12_385 (Z_bipush (dX12_next 72) ⟨by decide, by decide⟩ (Z_aload_n (dX12_next 73) rfl (Z_gIM (x := (iv 0 48)) (dX12_next 74) lk_X12_373 sM0 (Or.inl rfl) rfl (Z_imul (dX12_next 75) (h.2.2.2.2 (b01_n.mp c2)).1 (Z_aload_n (dX12_next 76) rfl (Z_aload_n (dX12_next 77) rfl (Z_gIM (x := (iv 0 47)) (dX12_next 78) lk_X12_364 sM0 (Or.inl rfl) rfl (Z_cVM (As := [vi (iv 0 47)]) (S := [vi (10 * (iv 0 48)), vi 100000, vr (some 0)]) (dX12_next 79) lk_X12_367 sM0 (by decide) rfl rfl (Nat.le_of_ble_eq_true rfl) (Nat.le_of_ble_eq_true rfl) (M_sign  (h.2.2.2.2 (b01_n.mp c2)).2.1 (h.2.2.2.2 (b01_n.mp c2)).2.2.1 (h.2.2.2.2 (b01_n.mp c2)).2.2.2.1 ((Z_iadd (dX12_next 80) (h.2.2.2.2 (b01_n.mp c2)).2.2.2.2.1 (Z_bipush (dX12_next 81) ⟨by decide, by decide⟩ (Z_isub (dX12_next 82) (h.2.2.2.2 (b01_n.mp c2)).2.2.2.2.2.1 (Z_min (dX12_next 83) lk_X12_276 mt_min_s mt_ini mt_min_c (Nat.le_of_ble_eq_true rfl) (Z_putIM (dX12_next 84) lk_X12_373 sM0 rfl (Or.inl rfl) (Z_aload_n (dX12_next 85) rfl (Z_dup (dX12_next 86) rfl (Z_gIM (x := (iv 0 47)) (dX12_next 87) lk_X12_364 sM0 (Or.inl rfl) ((iu_k (by decide)).trans rfl) (Z_iconst (dX12_next 88) ⟨by decide, by decide⟩ (Z_iadd (dX12_next 89) (h.2.2.2.2 (b01_n.mp c2)).2.2.2.2.2.2.1 (Z_putIM (dX12_next 90) lk_X12_364 sM0 rfl (Or.inl rfl) (Z_goto (dX12_next 91) rfl (h.2.2.2.2 (b01_n.mp c2)).2.2.2.2.2.2.2)))))))))))))))))))))))))))))))))))
def nF (m v : Nat → Nat → Int) : Prop := ∀ i j, ¬ (i = 0 ∧ (j = 45 ∨ j = 46 ∨ j = 47 ∨ j = 48)) → v i j = m i j
theorem nx_eq {m v : Nat → Nat → Int} (f : nF m v) (h45 : v 0 45 = tkT (m 29) (m 0 44) (tkA (m 29) (m 0 44) (m 0 47))) (h46 : v 0 46 = tkA (m 29) (m 0 44) (m 0 47)) (h47 : v 0 47 = tkE (m 29) (m 0 44) (tkA (m 29) (m 0 44) (m 0 47))) (h48 : v 0 48 = tkV (m 29) (m 0 44) (tkA (m 29) (m 0 44) (m 0 47))) : v = nx m := by
  funext i j
  unfold nx
  by_cases c : i = 0 ∧ (j = 45 ∨ j = 46 ∨ j = 47 ∨ j = 48)
  · obtain ⟨rfl, c⟩ := c
    rcases c with rfl | rfl | rfl | rfl
    · rw [h45]; rfl
    · rw [h46]; rfl
    · rw [h47]; rfl
    · rw [h48]; rfl
  · rw [f i j c, iu_ap, if_neg (by omega), iu_ap, if_neg (by omega), iu_ap, if_neg (by omega), iu_ap, if_neg (by omega)]
theorem nF_u {m v : Nat → Nat → Int} {j : Nat} {x : Int} (f : nF m v) (h : j = 45 ∨ j = 46 ∨ j = 47 ∨ j = 48) : nF m (iu v 0 j x) := by
  intro i q c
  rw [iu_ap, if_neg (fun z => c ⟨z.1, by rw [z.2]; exact h⟩)]
  exact f i q c
theorem nF_b {m v : Nat → Nat → Int} (f : nF m v) : v 29 = m 29 ∧ v 0 44 = m 0 44 := ⟨funext fun j => f 29 j (by omega), f 0 44 (by omega)⟩
theorem M_next {G : ZG} {d : Nat} {iv : Nat → Nat → Int} {K : Option AV → AH → Prop} (hp : 0 ≤ iv 0 47 ∧ iv 0 47 ≤ iv 0 44) (hn : iv 0 44 ≤ 600) (hb : bOK (iv 29)) (k : K none (mkM (nx iv))) : Z G mX12_next (d + 1) 0 0 0 [vr (some 0), vu] [] (mkM iv) K := by
  have fin : ∀ v, nF iv v → v 0 45 = tkT (iv 29) (iv 0 44) (tkA (iv 29) (iv 0 44) (iv 0 47)) → v 0 46 = tkA (iv 29) (iv 0 44) (iv 0 47) → v 0 47 = tkE (iv 29) (iv 0 44) (tkA (iv 29) (iv 0 44) (iv 0 47)) → v 0 48 = tkV (iv 29) (iv 0 44) (tkA (iv 29) (iv 0 44) (iv 0 47)) → K none (mkM v) := fun v f a b c e => by rw [nx_eq f a b c e]; exact k
  clear k
  have rA := (scN_r (P := isSp) (b := iv 29) hp.2).1
  have eA : tkA (iv 29) (iv 0 44) (iv 0 47) = scN isSp (iv 29) (iv 0 44) (iv 0 47) := rfl
  rw [← eA] at rA
  generalize hA : tkA (iv 29) (iv 0 44) (iv 0 47) = a at *
  -- from the token's first sign on
  have tok : ∀ v, nF iv v → v 0 47 = a → Z G mX12_next (d + 1) 0 0 39 [vr (some 0), vu] [] (mkM v) K := by
    intro v f e47
    obtain ⟨e29, e44⟩ := nF_b f
    apply sX12_next_39
    rw [iu_row (i := 29) (by decide), iu_k (i := 0) (j := 44) (by decide), e29, e44, e47]
    have f1 : nF iv (iu v 0 46 a) := nF_u f (by omega)
    have f2 : ∀ x, nF iv (iu (iu v 0 46 a) 0 48 x) := fun x => nF_u f1 (by omega)
    refine ⟨by omega, hn, hb, fun n1 => ?_, fun e1 => ?_⟩
    · have an : a < iv 0 44 := by
        apply Classical.byContradiction
        intro z
        exact n1 (by unfold sgn; rw [if_neg z])
      have ba := hb a (by omega) (by omega)
      have es : sgn (iv 29) (iv 0 44) a = iv 29 a.toNat % 256 := by unfold sgn; rw [if_pos an]
      rw [es]
      have lt : (97 ≤ iv 29 a.toNat % 256 ∧ iv 29 a.toNat % 256 ≤ 122) ↔ isLt (iv 29 a.toNat) = true := by unfold isLt; rw [decide_eq_true_iff]; omega
      have dg : (48 ≤ iv 29 a.toNat % 256 ∧ iv 29 a.toNat % 256 ≤ 57) ↔ isDg (iv 29 a.toNat) = true := by unfold isDg; rw [decide_eq_true_iff]; omega
      have sg : isSg (iv 29 a.toNat) = true ↔ (iv 29 a.toNat % 256 = 123 ∨ iv 29 a.toNat % 256 = 125 ∨ iv 29 a.toNat % 256 = 59 ∨ iv 29 a.toNat % 256 = 60 ∨ iv 29 a.toNat % 256 = 62) := by unfold isSg; rw [decide_eq_true_iff]; omega
      refine ⟨fun n2 => ⟨fun n3 => ⟨by omega, ?_⟩, fun y3 => ?_⟩, fun y2 => ?_⟩
      · rw [lt] at n2
        rw [dg] at n3
        have E : tkE (iv 29) (iv 0 44) a = a + 1 := by unfold tkE; rw [if_neg (by omega), if_neg n2, if_neg n3]
        have V : tkV (iv 29) (iv 0 44) a = iv 29 a.toNat % 256 := by unfold tkV; rw [if_neg (by omega), if_neg n3]
        have T : tkT (iv 29) (iv 0 44) a = if isSg (iv 29 a.toNat) = true then 4 else 1 := by unfold tkT; rw [if_neg (by omega), if_neg n2, if_neg n3]
        have ys : isSg (iv 29 a.toNat) = true → K none (mkM (iu (iu (iu (iu v 0 46 a) 0 48 (iv 29 a.toNat % 256)) 0 47 (a + 1)) 0 45 4)) := fun c => fin _ (nF_u (nF_u (f2 _) (by omega)) (by omega)) (by rw [T, if_pos c]; rfl) rfl (by rw [E]; rfl) (by rw [V]; rfl)
        have no : ¬ isSg (iv 29 a.toNat) = true → K none (mkM (iu (iu (iu (iu v 0 46 a) 0 48 (iv 29 a.toNat % 256)) 0 47 (a + 1)) 0 45 1)) := fun c => fin _ (nF_u (nF_u (f2 _) (by omega)) (by omega)) (by rw [T, if_neg c]; rfl) rfl (by rw [E]; rfl) (by rw [V]; rfl)
        refine ⟨fun c => ys (sg.mpr (by omega)), fun c1 => ⟨fun c => ys (sg.mpr (by omega)), fun c2 => ⟨fun c => ys (sg.mpr (by omega)), fun c3 => ⟨fun c => ys (sg.mpr (by omega)), fun c4 => ⟨fun c => no (fun z => by rw [sg] at z; omega), fun c => ys (sg.mpr (by omega))⟩⟩⟩⟩⟩
      · rw [lt] at n2
        rw [dg] at y3
        have rE := (scN_r (P := isDg) (b := iv 29) (n := iv 0 44) (p := a) (by omega)).1
        have E : tkE (iv 29) (iv 0 44) a = scN isDg (iv 29) (iv 0 44) a := by unfold tkE; rw [if_neg (by omega), if_neg n2, if_pos y3]
        have V : tkV (iv 29) (iv 0 44) a = mdv (iv 29) a (scN isDg (iv 29) (iv 0 44) a - a).toNat := by unfold tkV; rw [if_neg (by omega), if_pos y3]
        have T : tkT (iv 29) (iv 0 44) a = if 4 < scN isDg (iv 29) (iv 0 44) a - a then 1 else 3 := by unfold tkT; rw [if_neg (by omega), if_neg n2, if_pos y3]
        refine lp_m (P := fun u => Z G mX12_next (d + 1) 0 0 128 [vr (some 0), vu] [] (mkM u) K) (fun u => (iv 0 44 - u 0 47).toNat) (fun u => nF iv u ∧ (a ≤ u 0 47 ∧ u 0 47 ≤ iv 0 44) ∧ scN isDg (iv 29) (iv 0 44) (u 0 47) = scN isDg (iv 29) (iv 0 44) a ∧ u 0 46 = a ∧ u 0 48 = mdv (iv 29) a (u 0 47 - a).toNat ∧ (0 ≤ u 0 48 ∧ u 0 48 ≤ 100000)) ?_ _ ⟨nF_u (f2 _) (by omega), ?_, ?_, rfl, ?_, ?_⟩
        · rintro u ⟨fu, ru, su, u46, u48, r48⟩ ih
          obtain ⟨e29, e44⟩ := nF_b fu
          apply sX12_next_128
          rw [e29, e44]
          have bq := hb (u 0 47)
          refine ⟨by omega, hn, hb, fun c => ?_, fun c => ?_⟩
          · have e : scN isDg (iv 29) (iv 0 44) (u 0 47) = u 0 47 := scN_f (fun z => c (by
              have := bq (by omega) (by omega)
              have z2 := z.2
              unfold isDg at z2
              rw [decide_eq_true_iff] at z2
              unfold sgn
              rw [if_pos z.1]; omega))
            rw [e] at su
            refine ⟨by omega, fun q => ?_, fun q => ?_⟩
            · refine fin _ (nF_u fu (by omega)) ?_ u46 (by rw [E, ← su]; rfl) (by rw [V, ← su]; exact u48)
              rw [T, ← su, if_neg (by omega)]; rfl
            · refine fin _ (nF_u fu (by omega)) ?_ u46 (by rw [E, ← su]; rfl) (by rw [V, ← su]; exact u48)
              rw [T, ← su, if_pos (by omega)]; rfl
          · have q : u 0 47 < iv 0 44 ∧ isDg (iv 29 (u 0 47).toNat) = true := by
              unfold sgn at c
              split at c
              · rename_i g
                have := bq (by omega) (by omega)
                refine ⟨g, ?_⟩
                unfold isDg; rw [decide_eq_true_iff]; omega
              · omega
            have es : sgn (iv 29) (iv 0 44) (u 0 47) = iv 29 (u 0 47).toNat := by
              have := bq (by omega) (by omega)
              have z2 := q.2
              unfold isDg at z2
              rw [decide_eq_true_iff] at z2
              unfold sgn
              rw [if_pos q.1]; omega
            have z2 := q.2
            unfold isDg at z2
            rw [decide_eq_true_iff] at z2
            rw [es]
            refine ⟨by omega, by omega, hn, hb, by omega, by omega, by omega, ih _ ⟨nF_u (nF_u fu (by omega)) (by omega), ?_, ?_, u46, ?_, ?_⟩ ?_⟩
            · rw [iu_eq]; omega
            · rw [iu_eq, ← scN_t q.1 q.2]; exact su
            · rw [iu_eq, iu_k (by decide), iu_eq, show (u 0 47 + 1 - a).toNat = (u 0 47 - a).toNat + 1 by omega]
              conv => rhs; unfold mdv
              rw [← u48, show (a + (((u 0 47 - a).toNat : Nat) : Int)).toNat = (u 0 47).toNat by omega]
            · rw [iu_k (by decide), iu_eq]; omega
            · rw [iu_eq]; omega
        · rw [iu_k (by decide), iu_k (by decide), iu_k (by decide), e47]; omega
        · rw [iu_k (by decide), iu_k (by decide), iu_k (by decide), e47]
        · rw [iu_eq, iu_k (by decide), iu_k (by decide), iu_k (by decide), e47, Int.sub_self]; rfl
        · rw [iu_eq]; omega
      · rw [lt] at y2
        have E : tkE (iv 29) (iv 0 44) a = scN isLt (iv 29) (iv 0 44) a := by unfold tkE; rw [if_neg (by omega), if_pos y2]
        have V : tkV (iv 29) (iv 0 44) a = iv 29 a.toNat % 256 := by
          unfold tkV
          rw [if_neg (by omega), if_neg (fun z => ?_)]
          unfold isLt at y2
          unfold isDg at z
          rw [decide_eq_true_iff] at y2 z
          omega
        have T : tkT (iv 29) (iv 0 44) a = 2 := by unfold tkT; rw [if_neg (by omega), if_pos y2]
        refine lp_m (P := fun u => Z G mX12_next (d + 1) 0 0 81 [vr (some 0), vu] [] (mkM u) K) (fun u => (iv 0 44 - u 0 47).toNat) (fun u => nF iv u ∧ (a ≤ u 0 47 ∧ u 0 47 ≤ iv 0 44) ∧ scN isLt (iv 29) (iv 0 44) (u 0 47) = scN isLt (iv 29) (iv 0 44) a ∧ u 0 46 = a ∧ u 0 48 = iv 29 a.toNat % 256) ?_ _ ⟨f2 _, ?_, ?_, rfl, rfl⟩
        · rintro u ⟨fu, ru, su, u46, u48⟩ ih
          obtain ⟨e29, e44⟩ := nF_b fu
          apply sX12_next_81
          rw [e29, e44]
          have bq := hb (u 0 47)
          refine ⟨by omega, hn, hb, fun c => ?_, fun c => ⟨by omega, ?_⟩⟩
          · have e : scN isLt (iv 29) (iv 0 44) (u 0 47) = u 0 47 := scN_f (fun z => c (by
              have := bq (by omega) (by omega)
              have z2 := z.2
              unfold isLt at z2
              rw [decide_eq_true_iff] at z2
              unfold sgn
              rw [if_pos z.1]; omega))
            refine fin _ (nF_u fu (by omega)) (by rw [T]; rfl) u46 ?_ (by rw [V]; exact u48)
            rw [E, ← su, e]; rfl
          · have q : u 0 47 < iv 0 44 ∧ isLt (iv 29 (u 0 47).toNat) = true := by
              unfold sgn at c
              split at c
              · rename_i g
                have := bq (by omega) (by omega)
                refine ⟨g, ?_⟩
                unfold isLt; rw [decide_eq_true_iff]; omega
              · omega
            refine ih _ ⟨nF_u fu (by omega), ?_, ?_, u46, u48⟩ ?_
            · rw [iu_eq]; omega
            · rw [iu_eq, ← scN_t q.1 q.2]; exact su
            · rw [iu_eq]; omega
        · rw [iu_k (by decide), iu_k (by decide), e47]; omega
        · rw [iu_k (by decide), iu_k (by decide), e47]
    · have an : iv 0 44 ≤ a := by
        apply Classical.byContradiction
        intro z
        have := hb a (by omega) (by omega)
        unfold sgn at e1
        rw [if_pos (by omega)] at e1
        omega
      rw [e1]
      refine fin _ (nF_u (f2 _) (by omega)) ?_ rfl ?_ ?_
      · unfold tkT; rw [if_pos an]; rfl
      · unfold tkE; rw [if_pos an, iu_k (by decide), iu_k (by decide), iu_k (by decide)]; exact e47
      · unfold tkV; rw [if_pos an]; rfl
  refine lp_m (P := fun u => Z G mX12_next (d + 1) 0 0 0 [vr (some 0), vu] [] (mkM u) K) (fun u => (iv 0 44 - u 0 47).toNat) (fun u => nF iv u ∧ (0 ≤ u 0 47 ∧ u 0 47 ≤ iv 0 44) ∧ scN isSp (iv 29) (iv 0 44) (u 0 47) = a) ?_ iv ⟨fun _ _ _ => rfl, hp, hA⟩
  rintro u ⟨fu, ru, su⟩ ih
  obtain ⟨e29, e44⟩ := nF_b fu
  have on : (u 0 47 < iv 0 44 ∧ isSp (iv 29 (u 0 47).toNat) = true) → Z G mX12_next (d + 1) 0 0 0 [vr (some 0), vu] [] (mkM (iu u 0 47 (u 0 47 + 1))) K := by
    intro q
    refine ih _ ⟨nF_u fu (by omega), ?_, ?_⟩ ?_
    · rw [iu_eq]; omega
    · rw [iu_eq, ← scN_t q.1 q.2]; exact su
    · rw [iu_eq]; omega
  apply sX12_next_0
  rw [e29, e44]
  have is32 := sg_is hb hn ru.1 32 (by omega)
  have is10 := sg_is hb hn ru.1 10 (by omega)
  refine ⟨ru.1, hn, hb, fun c => ⟨by omega, on ?_⟩, fun c => ⟨ru.1, hn, hb, fun c2 => tok u fu ?_, fun c2 => ⟨by omega, on ?_⟩⟩⟩
  · rw [is32] at c
    exact ⟨c.1, by unfold isSp; rw [decide_eq_true_iff]; exact Or.inr c.2⟩
  · rw [← su]
    refine (scN_f (fun z => ?_)).symm
    have z2 := z.2
    unfold isSp at z2
    rw [decide_eq_true_iff] at z2
    rcases z2 with y | y
    · exact c2 (is10.mpr ⟨z.1, y⟩)
    · exact c (is32.mpr ⟨z.1, y⟩)
  · rw [is10] at c2
    exact ⟨c2.1, by unfold isSp; rw [decide_eq_true_iff]; exact Or.inl c2.2⟩

