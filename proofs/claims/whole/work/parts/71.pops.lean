/-! ===== reading in step: signs and numbers ===== -/
theorem sh_n {o : Nat} (h : isSh o) : (54 ≠ o ∧ o + 62 ≠ o ∧ o + 63 ≠ o) ∧ ∀ i : Nat, o + 2 + i ≠ o := by
  exact ⟨⟨by rcases h with e | e <;> subst e <;> decide, by omega, by omega⟩, fun i => by omega⟩
theorem PR_next {o : Nat} {c c' m : Nat → Nat → Int} (ho : isSh o) (h : PR o c m) (f : aF c c' o) (t : tkC c c' o) : PR o c' (nx m) := by
  obtain ⟨h1, h2, h3, h4⟩ := h
  have rr : ∀ i, i ≠ o → c' i = c i := fun i a => funext fun j => f i j (fun z => a z.1)
  refine ⟨PT_n ho h1 f t, ⟨?_, ?_, h2.2.2⟩, ⟨?_, h3.2.1, fun i a b => ?_⟩, ⟨?_, h4.2.1, fun z0 i a b => ?_⟩⟩
  · rw [f o 12 (by omega)]; exact h2.1
  · rw [f o 13 (by omega)]; exact h2.2.1
  · rw [f o 3 (by omega)]; exact h3.1
  · rw [rr (o + 62) (by omega), rr (o + 63) (by omega)]; exact h3.2.2 i a b
  · rw [f o 11 (by omega)]; exact h4.1
  · have := h4.2.2 z0 i a b
    unfold stE at *
    rw [rr (o + 2 + i.toNat) (by omega)]; exact this
def cfl (k : Int) (c : Nat → Nat → Int) (o : Nat) : Nat → Nat → Int := iu (iu c o 12 k) o 13 (c o 8)
def mfl (k : Int) (m : Nat → Nat → Int) : Nat → Nat → Int := iu (iu m 0 51 k) 0 50 (m 0 46)
def mfail (k : Int) (m : Nat → Nat → Int) : Nat → Nat → Int := if 0 < m 0 51 then m else mfl (if m 0 45 = 1 then 1 else k) m
theorem cfl_f {k : Int} {c : Nat → Nat → Int} {o : Nat} : (∀ i, i ≠ o → cfl k c o i = c i) ∧ (∀ j, j ≠ 12 → j ≠ 13 → cfl k c o o j = c o j) ∧ cfl k c o o 12 = k ∧ cfl k c o o 13 = c o 8 := by
  refine ⟨fun i a => by unfold cfl; rw [iu_row a, iu_row a], fun j a b => by unfold cfl; rw [iu_k b, iu_k a], by unfold cfl; rw [iu_k (by decide)]; exact iu_eq, by unfold cfl; exact iu_eq⟩
theorem mfl_f {k : Int} {m : Nat → Nat → Int} : (∀ i, i ≠ 0 → mfl k m i = m i) ∧ (∀ j, j ≠ 50 → j ≠ 51 → mfl k m 0 j = m 0 j) ∧ mfl k m 0 51 = k ∧ mfl k m 0 50 = m 0 46 := by
  refine ⟨fun i a => by unfold mfl; rw [iu_row a, iu_row a], fun j a b => by unfold mfl; rw [iu_k a, iu_k b], rfl, rfl⟩
theorem PR_fl {o : Nat} {c m : Nat → Nat → Int} {k : Int} (ho : isSh o) (hk : 0 < k) (h : PR o c m) : PR o (cfl k c o) (mfl k m) := by
  obtain ⟨h1, h2, h3, h4⟩ := h
  obtain ⟨c1, c2, c3, c4⟩ := cfl_f (k := k) (c := c) (o := o)
  obtain ⟨m1, m2, m3, m4⟩ := mfl_f (k := k) (m := m)
  have n54 : (54 : Nat) ≠ o := (sh_n ho).1.1
  refine ⟨?_, ⟨by rw [c3, m3], by rw [c4, m4]; exact h1.2.2.2.2.2.1, by rw [m3]; omega⟩, ?_, ?_⟩
  · unfold PT TxC TxM at *
    rw [c1 54 n54, c2 5 (by decide) (by decide), c2 6 (by decide) (by decide), c2 7 (by decide) (by decide), c2 8 (by decide) (by decide), c2 9 (by decide) (by decide), m1 29 (by decide), m2 44 (by decide) (by decide), m2 45 (by decide) (by decide), m2 46 (by decide) (by decide), m2 47 (by decide) (by decide), m2 48 (by decide) (by decide)]
    exact h1
  · unfold PN at *
    rw [c2 3 (by decide) (by decide), c1 (o + 62) (by omega), c1 (o + 63) (by omega), m2 71 (by decide) (by decide), m2 44 (by decide) (by decide), m1 29 (by decide), m1 44 (by decide)]
    exact h3
  · unfold PS at *
    rw [c2 11 (by decide) (by decide), m2 70 (by decide) (by decide), m3]
    exact ⟨h4.1, h4.2.1, fun z => by omega⟩
theorem tk41 {o : Nat} {c m : Nat → Nat → Int} (h : PT o c m) : (c o 7 = 4 ↔ m 0 45 = 1) ∧ (c o 7 = 3 ↔ m 0 45 = 4) ∧ (c o 7 = 2 ↔ m 0 45 = 3) ∧ (c o 7 = 1 ↔ m 0 45 = 2) ∧ (c o 7 = 0 ↔ m 0 45 = 0) := by
  have r := h.1.2.2
  have e := h.2.2.2.2.2.2.1
  unfold tkm at e
  split at e
  · omega
  · split at e
    · omega
    · split at e
      · omega
      · split at e <;> omega
/-- a fault of the class beside the model's -/
theorem PR_mis {o : Nat} {c m : Nat → Nat → Int} (ho : isSh o) (h : PR o c m) (h0 : c o 12 = 0) : PR o (cfl (if c o 7 = 4 then 1 else 2) c o) (mfail 2 m) := by
  have t := tk41 h.1
  have z : ¬ 0 < m 0 51 := by have := h.2.1.1; omega
  unfold mfail
  rw [if_neg z]
  by_cases e : m 0 45 = 1
  · rw [if_pos e, if_pos (t.1.mpr e)]; exact PR_fl ho (by omega) h
  · rw [if_neg e, if_neg (fun q => e (t.1.mp q))]; exact PR_fl ho (by omega) h
theorem PR_bla {o : Nat} {c m : Nat → Nat → Int} {k : Int} (ho : isSh o) (hk : 0 < k) (h : PR o c m) (h0 : c o 12 = 0) (ht : m 0 45 ≠ 1) : PR o (cfl k c o) (mfail k m) := by
  have z : ¬ 0 < m 0 51 := by have := h.2.1.1; omega
  unfold mfail
  rw [if_neg z, if_neg ht]; exact PR_fl ho hk h
def eF (c c' : Nat → Nat → Int) (o : Nat) : Prop := ∀ i j, ¬ (i = o ∧ (j = 6 ∨ j = 7 ∨ j = 8 ∨ j = 9 ∨ j = 12 ∨ j = 13)) → c' i j = c i j
theorem eF_a {c c' : Nat → Nat → Int} {o : Nat} (h : aF c c' o) : eF c c' o := fun i j a => h i j (by omega)
theorem eF_c {k : Int} {c : Nat → Nat → Int} {o : Nat} : eF c (cfl k c o) o := by
  intro i j a
  unfold cfl
  rw [iu_ap, if_neg (by omega), iu_ap, if_neg (by omega)]
theorem eF_r {c : Nat → Nat → Int} {o : Nat} : eF c c o := fun _ _ _ => rfl
theorem eF_t {c c' c'' : Nat → Nat → Int} {o : Nat} (h : eF c c' o) (h' : eF c' c'' o) : eF c c'' o := fun i j a => by rw [h' i j a, h i j a]
theorem C_mis {G : ZG} {d : Nat} {c : Nat → Nat → Int} {K : Option AV → AH → Prop} {rv : Nat → Nat → Option Nat} {o0 : Nat} (hR : RC rv) (ho : isSh o0) (h0 : c o0 12 = 0) (k : K none (mkC (cfl (if c o0 7 = 4 then 1 else 2) c o0) rv)) : Z G mX6_misplaced d 0 0 0 [vr (some o0)] [] (mkC c rv) K := by
  apply sX6_misplaced_0 hR ho
  refine ⟨fun n => absurd h0 n, fun _ => ⟨fun n => ?_, fun e => ?_⟩⟩
  · rw [if_neg n] at k; exact k
  · rw [if_pos e] at k; exact k
theorem C_bla {G : ZG} {d : Nat} {c : Nat → Nat → Int} {K : Option AV → AH → Prop} {rv : Nat → Nat → Option Nat} {o0 : Nat} {x1 : Int} (hR : RC rv) (ho : isSh o0) (h0 : c o0 12 = 0) (k : K none (mkC (cfl x1 c o0) rv)) : Z G mX6_blame d 0 0 0 [vr (some o0), vi x1] [] (mkC c rv) K := by
  apply sX6_blame_0 hR ho
  exact ⟨fun n => absurd h0 n, fun _ => k⟩
set_option maxRecDepth 20000 in
theorem sX6_expect_35 {G : ZG} {d : Nat} {iv : Nat → Nat → Int} {K : Option AV → AH → Prop} {rv : Nat → Nat → Option Nat} (hR : RC rv) (h : K none (mkC iv rv)) : Z G mX6_expect (d + 1) 0 0 35 [vu, vu] [] (mkC iv rv) K := (Z_return (dX6_expect 17) rfl h)
set_option maxRecDepth 20000 in
theorem sX6_readNumber_21 {G : ZG} {d : Nat} {iv : Nat → Nat → Int} {K : Option AV → AH → Prop} {rv : Nat → Nat → Option Nat} (hR : RC rv) (h : K (some (vi (-1))) (mkC iv rv)) : Z G mX6_readNumber (d + 1) 0 0 21 [vu, vu, vu, vu] [] (mkC iv rv) K := (Z_iconst (dX6_readNumber 11) ⟨by decide, by decide⟩ (Z_ireturn (dX6_readNumber 12) rfl h))
set_option maxRecDepth 20000 in
theorem sX6_readNumber_40 {G : ZG} {d : Nat} {iv : Nat → Nat → Int} {K : Option AV → AH → Prop} {rv : Nat → Nat → Option Nat} (hR : RC rv) (h : K (some (vi (-1))) (mkC iv rv)) : Z G mX6_readNumber (d + 1) 0 0 40 [vu, vu, vu, vu] [] (mkC iv rv) K := (Z_iconst (dX6_readNumber 22) ⟨by decide, by decide⟩ (Z_ireturn (dX6_readNumber 23) rfl h))
def isS (m : Nat → Nat → Int) (x : Int) : Prop := m 0 45 = 4 ∧ m 0 48 = x
/-- the class expects a sign -/
theorem C_expect {G : ZG} {d : Nat} {c m : Nat → Nat → Int} {K : Option AV → AH → Prop} {rv : Nat → Nat → Option Nat} {o0 : Nat} {x1 : Int} (hR : RC rv) (ho : isSh o0) (ht : rv o0 4 = some 54) (h : PR o0 c m) (h0 : c o0 12 = 0) (ky : isS m x1 → ∀ c', PR o0 c' (nx m) → eF c c' o0 → c' o0 12 = 0 → K none (mkC c' rv)) (kn : ¬ isS m x1 → ∀ c', PR o0 c' (mfail 2 m) → eF c c' o0 → ¬ c' o0 12 = 0 → K none (mkC c' rv)) : Z G mX6_expect (d + 1) 0 0 0 [vr (some o0), vi x1] [] (mkC c rv) K := by
  have t := tk41 h.1
  have pt := h.1
  have bad : ¬ isS m x1 → Z G mX6_misplaced d 0 0 0 [vr (some o0)] [] (mkC c rv) (fun r A1 => Z G mX6_expect (d + 1) 0 0 35 [vr (some o0), vi x1] (r.toList ++ []) A1 K) := by
    intro n
    refine C_mis hR ho h0 ?_
    refine Z.fg (L' := [vu, vu]) ⟨Or.inr rfl, Or.inr rfl, trivial⟩ ?_
    apply sX6_expect_35 hR
    refine kn n _ (PR_mis ho h h0) eF_c ?_
    rw [cfl_f.2.2.1]; split <;> decide
  apply sX6_expect_0 hR ho ht
  refine ⟨fun _ => ⟨fun n => bad (fun z => n (t.2.1.mpr z.1)), fun e => ⟨fun n => bad (fun z => n (by rw [pt.2.2.2.2.2.2.2.1 (Or.inr e)]; exact z.2)), fun e2 => ⟨by have := pt.1.1; omega, pt.1.1.2.2.2, pt.1.2.1, fun v f => ky ⟨t.2.1.mp e, by rw [← pt.2.2.2.2.2.2.2.1 (Or.inr e)]; exact e2⟩ v (PR_next ho h f.1 f.2) (eF_a f.1) ?_⟩⟩⟩, fun n => absurd h0 n⟩
  rw [f.1 o0 12 (by omega)]; exact h0
/-- the class reads a number -/
def nOkB (m : Nat → Nat → Int) (l g : Int) : Prop := m 0 45 = 3 ∧ (l ≤ m 0 48 ∧ m 0 48 ≤ g)
theorem C_readNumber {G : ZG} {d : Nat} {c m : Nat → Nat → Int} {K : Option AV → AH → Prop} {rv : Nat → Nat → Option Nat} {o0 : Nat} {x1 x2 : Int} (hR : RC rv) (ho : isSh o0) (ht : rv o0 4 = some 54) (h : PR o0 c m) (h0 : c o0 12 = 0) (ky : nOkB m x1 x2 → ∀ c', PR o0 c' (nx m) → eF c c' o0 → c' o0 12 = 0 → K (some (vi (m 0 48))) (mkC c' rv)) (kn : ¬ nOkB m x1 x2 → ∀ c', PR o0 c' (mfail (if m 0 45 = 3 then 4 else 2) m) → eF c c' o0 → ¬ c' o0 12 = 0 → K (some (vi (-1))) (mkC c' rv)) : Z G mX6_readNumber (d + 1) 0 0 0 [vr (some o0), vi x1, vi x2, vu] [] (mkC c rv) K := by
  have t := tk41 h.1
  have pt := h.1
  apply sX6_readNumber_0 hR ho ht
  refine ⟨fun _ => ⟨fun e => ?_, fun n => ?_⟩, fun n => absurd h0 n⟩
  · have e3 := t.2.2.1.mp e
    have e9 := pt.2.2.2.2.2.2.2.1 (Or.inl e)
    rw [e9]
    refine ⟨fun q => ⟨by have := pt.1.1; omega, pt.1.1.2.2.2, pt.1.2.1, fun v f => ky ⟨e3, q⟩ v (PR_next ho h f.1 f.2) (eF_a f.1) (by rw [f.1 o0 12 (by omega)]; exact h0)⟩, fun q => ?_⟩
    refine C_bla hR ho h0 ?_
    refine Z.fg (L' := [vu, vu, vu, vu]) ⟨Or.inr rfl, Or.inr rfl, Or.inr rfl, Or.inr rfl, trivial⟩ ?_
    apply sX6_readNumber_40 hR
    refine kn (fun z => q z.2) _ ?_ eF_c ?_
    · rw [if_pos e3]; exact PR_bla ho (by omega) h h0 (by omega)
    · rw [cfl_f.2.2.1]; decide
  · refine C_mis hR ho h0 ?_
    refine Z.fg (L' := [vu, vu, vu, vu]) ⟨Or.inr rfl, Or.inr rfl, Or.inr rfl, Or.inr rfl, trivial⟩ ?_
    apply sX6_readNumber_21 hR
    refine kn (fun z => n (t.2.2.1.mpr z.1)) _ ?_ eF_c ?_
    · rw [if_neg (fun z => n (t.2.2.1.mpr z))]; exact PR_mis ho h h0
    · rw [cfl_f.2.2.1]; split <;> decide
theorem M_isSign {G : ZG} {d : Nat} {iv : Nat → Nat → Int} {K : Option AV → AH → Prop} {x1 : Int} (k : K (some (vi (b01 (iv 0 45 = 4 ∧ iv 0 48 = x1)))) (mkM iv)) : Z G mX12_isSign d 0 0 0 [vr (some 0), vi x1] [] (mkM iv) K := by
  apply sX12_isSign_0
  unfold b01 at k
  refine ⟨fun n => ?_, fun e => ⟨fun n => ?_, fun e2 => ?_⟩⟩
  · rw [if_neg (fun z => n z.1)] at k; exact k
  · rw [if_neg (fun z => n z.2)] at k; exact k
  · rw [if_pos ⟨e, e2⟩] at k; exact k
theorem M_fail {G : ZG} {d : Nat} {iv : Nat → Nat → Int} {K : Option AV → AH → Prop} {x1 : Int} (k : K (some (vi 0)) (mkM (mfail x1 iv))) : Z G mX12_fail d 0 0 0 [vr (some 0), vi x1] [] (mkM iv) K := by
  apply sX12_fail_0
  unfold mfail at k
  refine ⟨fun a => ⟨fun n => ?_, fun e => ?_⟩, fun a => ?_⟩
  · rw [if_neg (by omega), if_neg n] at k; exact k
  · rw [if_neg (by omega), if_pos e] at k; exact k
  · rw [if_pos a] at k; exact k
set_option maxRecDepth 20000 in
theorem sX12_want_c {G : ZG} {d : Nat} {iv : Nat → Nat → Int} {K : Option AV → AH → Prop} {x1 : Int} (h : (iv 0 45 = 4 ∧ iv 0 48 = x1 → ((0 ≤ iv 0 47 ∧ iv 0 47 ≤ iv 0 44) ∧ ((iv 0 44 ≤ 600) ∧ ((bOK (iv 29)) ∧ (K (some (vi 1)) (mkM (nx iv))))))) ∧ (¬ (iv 0 45 = 4 ∧ iv 0 48 = x1) → (K (some (vi 0)) (mkM (mfail 2 iv))))) : Z G mX12_want (d + 2) 0 0 0 [vr (some 0), vi x1] [] (mkM iv) K := (Z_aload_n (dX12_want 0) rfl (Z_iload_n (dX12_want 1) rfl (Z_cVM (As := [vi x1]) (S := []) (dX12_want 2) lk_X12_398 sM0 (by decide) rfl rfl (Nat.le_of_ble_eq_true rfl) (Nat.le_of_ble_eq_true rfl) (M_isSign  ((Z_if_ne (dX12_want 3) rfl (fun c1 => (Z_aload_n (dX12_want 8) rfl (Z_cVM (As := []) (S := []) (dX12_want 9) lk_X12_404 sM0 (by decide) rfl rfl (Nat.le_of_ble_eq_true rfl) (Nat.le_of_ble_eq_true rfl) (M_next  (h.1 (b01_n.mp c1)).1 (h.1 (b01_n.mp c1)).2.1 (h.1 (b01_n.mp c1)).2.2.1 ((Z_iconst (dX12_want 10) ⟨by decide, by decide⟩ (Z_zreturn (dX12_want 11) rfl (Or.inr rfl) (h.1 (b01_n.mp c1)).2.2.2))))))) (fun c2 => (Z_aload_n (dX12_want 4) rfl (Z_iconst (dX12_want 5) ⟨by decide, by decide⟩ (Z_cVM (As := [vi 2]) (S := []) (dX12_want 6) lk_X12_401 sM0 (by decide) rfl rfl (Nat.le_of_ble_eq_true rfl) (Nat.le_of_ble_eq_true rfl) (M_fail  ((Z_zreturn (dX12_want 7) rfl (Or.inl rfl) (h.2 (b01_0.mp c2)))))))))))))))
set_option maxRecDepth 20000 in
theorem sX12_wantNumber_0 {G : ZG} {d : Nat} {iv : Nat → Nat → Int} {K : Option AV → AH → Prop} {x1 x2 : Int} (h : ((iv 0 45) = 3 → (((iv 0 48) < x1 → (K (some (vi (-1))) (mkM (mfail 4 iv)))) ∧ (x1 ≤ (iv 0 48) → (((iv 0 48) ≤ x2 → ((0 ≤ iv 0 47 ∧ iv 0 47 ≤ iv 0 44) ∧ ((iv 0 44 ≤ 600) ∧ ((bOK (iv 29)) ∧ (K (some (vi (iv 0 48))) (mkM (nx iv))))))) ∧ (x2 < (iv 0 48) → (K (some (vi (-1))) (mkM (mfail 4 iv)))))))) ∧ (¬ (iv 0 45) = 3 → (K (some (vi (-1))) (mkM (mfail 2 iv))))) : Z G mX12_wantNumber (d + 2) 0 0 0 [vr (some 0), vi x1, vi x2, vu] [] (mkM iv) K := (Z_aload_n (dX12_wantNumber 0) rfl (Z_gIM (x := (iv 0 45)) (dX12_wantNumber 1) lk_X12_376 sM0 (Or.inl rfl) rfl (Z_iconst (dX12_wantNumber 2) ⟨by decide, by decide⟩ (Z_icmp_eq (dX12_wantNumber 3) rfl (fun c1 => (Z_aload_n (dX12_wantNumber 10) rfl (Z_gIM (x := (iv 0 48)) (dX12_wantNumber 11) lk_X12_373 sM0 (Or.inl rfl) rfl (Z_iload_n (dX12_wantNumber 12) rfl (Z_icmp_lt (dX12_wantNumber 13) rfl (fun c3 => (Z_aload_n (dX12_wantNumber 18) rfl (Z_iconst (dX12_wantNumber 19) ⟨by decide, by decide⟩ (Z_cVM (As := [vi 4]) (S := []) (dX12_wantNumber 20) lk_X12_401 sM0 (by decide) rfl rfl (Nat.le_of_ble_eq_true rfl) (Nat.le_of_ble_eq_true rfl) (M_fail  ((Z_istore_n (dX12_wantNumber 21) (Nat.le_of_ble_eq_true rfl) rfl (Z_iconst (dX12_wantNumber 22) ⟨by decide, by decide⟩ (Z_ireturn (dX12_wantNumber 23) rfl ((h.1 c1).1 c3)))))))))) (fun c4 => (Z_aload_n (dX12_wantNumber 14) rfl (Z_gIM (x := (iv 0 48)) (dX12_wantNumber 15) lk_X12_373 sM0 (Or.inl rfl) rfl (Z_iload_n (dX12_wantNumber 16) rfl (Z_icmp_le (dX12_wantNumber 17) rfl (fun c5 => (Z_aload_n (dX12_wantNumber 24) rfl (Z_gIM (x := (iv 0 48)) (dX12_wantNumber 25) lk_X12_373 sM0 (Or.inl rfl) rfl (Z_istore_n (dX12_wantNumber 26) (Nat.le_of_ble_eq_true rfl) rfl (Z_aload_n (dX12_wantNumber 27) rfl (Z_cVM (As := []) (S := []) (dX12_wantNumber 28) lk_X12_404 sM0 (by decide) rfl rfl (Nat.le_of_ble_eq_true rfl) (Nat.le_of_ble_eq_true rfl) (M_next  (((h.1 c1).2 c4).1 c5).1 (((h.1 c1).2 c4).1 c5).2.1 (((h.1 c1).2 c4).1 c5).2.2.1 ((Z_iload_n (dX12_wantNumber 29) rfl (Z_ireturn (dX12_wantNumber 30) rfl (((h.1 c1).2 c4).1 c5).2.2.2)))))))))) (fun c6 => (Z_aload_n (dX12_wantNumber 18) rfl (Z_iconst (dX12_wantNumber 19) ⟨by decide, by decide⟩ (Z_cVM (As := [vi 4]) (S := []) (dX12_wantNumber 20) lk_X12_401 sM0 (by decide) rfl rfl (Nat.le_of_ble_eq_true rfl) (Nat.le_of_ble_eq_true rfl) (M_fail  ((Z_istore_n (dX12_wantNumber 21) (Nat.le_of_ble_eq_true rfl) rfl (Z_iconst (dX12_wantNumber 22) ⟨by decide, by decide⟩ (Z_ireturn (dX12_wantNumber 23) rfl (((h.1 c1).2 c4).2 c6)))))))))))))))))))) (fun c2 => (Z_aload_n (dX12_wantNumber 4) rfl (Z_iconst (dX12_wantNumber 5) ⟨by decide, by decide⟩ (Z_cVM (As := [vi 2]) (S := []) (dX12_wantNumber 6) lk_X12_401 sM0 (by decide) rfl rfl (Nat.le_of_ble_eq_true rfl) (Nat.le_of_ble_eq_true rfl) (M_fail  ((Z_istore_n (dX12_wantNumber 7) (Nat.le_of_ble_eq_true rfl) rfl (Z_iconst (dX12_wantNumber 8) ⟨by decide, by decide⟩ (Z_ireturn (dX12_wantNumber 9) rfl (h.2 c2))))))))))))))

