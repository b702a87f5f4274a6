/-! ===== a run: rows of steps in both worlds ===== -/
def RunO (B : Int) (p a b : Nat) (rv : Nat → Nat → Option Nat) (c m c' m' : Nat → Nat → Int) (n n' x i i' : Int) : Prop := (∀ G d K, JZ G d K n' x i' m' → JZ G d K n x i m) ∧ RunI B p a b c' m' rv n' ∧ rF a b c c' ∧ rM m m' ∧ (∀ j : Int, 0 ≤ j → j ≤ x → ∀ t, 51 ≤ t → t ≤ 54 → m' t j.toNat = m t j.toNat)
theorem RunO_r {B : Int} {p a b : Nat} {rv : Nat → Nat → Option Nat} {c m : Nat → Nat → Int} {n x i : Int} (h : RunI B p a b c m rv n) : RunO B p a b rv c m c m n n x i i := ⟨fun _ _ _ k => k, h, rF_r, rM_r, fun _ _ _ _ _ _ => rfl⟩
theorem RunO_t {B : Int} {p a b : Nat} {rv : Nat → Nat → Option Nat} {c m c' m' c'' m'' : Nat → Nat → Int} {n n' n'' x i i' i'' : Int} (h : RunO B p a b rv c m c' m' n n' x i i') (h' : RunO B p a b rv c' m' c'' m'' n' n'' x i' i'') : RunO B p a b rv c m c'' m'' n n'' x i i'' := by
  obtain ⟨a1, a2, a3, a4, a5⟩ := h
  obtain ⟨b1, b2, b3, b4, b5⟩ := h'
  exact ⟨fun G d K k => a1 G d K (b1 G d K k), b2, rF_t a3 b3, rM_t a4 b4, fun j j0 j1 t t0 t1 => by rw [b5 j j0 j1 t t0 t1, a5 j j0 j1 t t0 t1]⟩
theorem RunO_e {B : Int} {p a b : Nat} {rv : Nat → Nat → Option Nat} {c m c' m' : Nat → Nat → Int} {n n' x i i' : Int} (i'' : Int) (h : RunO B p a b rv c m c' m' n n' x i i') (z : ¬ m' 0 79 = 0) : RunO B p a b rv c m c' m' n n' x i i'' := by
  obtain ⟨a1, a2, a3, a4, a5⟩ := h
  exact ⟨fun G d K k => a1 G d K (JZ_e z k), a2, a3, a4, a5⟩
theorem rM_bM {m m' : Nat → Nat → Int} (h : rM m m') : bM m' = bM m := bM_f (fun i j a b => h i j (by omega) (by omega) (by omega) (by omega) (by omega) (by omega) (by omega) (by omega) (by omega))
theorem rM_30 {m m' : Nat → Nat → Int} (h : rM m m') {t j : Nat} (ht : 30 ≤ t ∧ t ≤ 41) : m' t j = m t j := h t j (by omega) (by omega) (by omega) (by omega) (by omega) (by omega) (by omega) (by omega) (by omega)
theorem rM_0 {m m' : Nat → Nat → Int} (h : rM m m') {j : Nat} (hj : j ≠ 20 ∧ j ≠ 79 ∧ j ≠ 80 ∧ j ≠ 81) : m' 0 j = m 0 j := h 0 j (by omega) (by omega) (by omega) (by omega) (by omega) (by omega) (by omega) (by omega) (by omega)
/-- one step -/
def SpecW (n : Nat) : Prop := ∀ (G : ZG) (d : Nat) (c m : Nat → Nat → Int) (K : Option AV → AH → Prop) (rv : Nat → Nat → Option Nat) (B : Int) (p a b : Nat) (x i e nn : Int), RC rv → mA a b rv → B ≤ 20000000 → RunI B p a b c m rv nn → m 0 79 = 0 → (0 ≤ x ∧ x + (n + 1) = 4) → StB (Blk p rv (bM m) n) p rv (bM m) i e → 0 ≤ i → e ≤ m 0 68 → ¬ i = m 52 x.toNat → (∀ c' m' nn', RunO B p a b rv c m c' m' nn nn' x i e → K none (mkC c' rv)) → Z G mX5_doStep (d + 2 * n + 9) 0 0 0 [vr (some 40), vr (some (p + 2 + i.toNat)), vi x, vu, vu] [] (mkC c rv) K
/-- a row of steps -/
def SpecB (n : Nat) : Prop := ∀ (G : ZG) (d : Nat) (c m : Nat → Nat → Int) (K : Option AV → AH → Prop) (rv : Nat → Nat → Option Nat) (B : Int) (p a b : Nat) (x i e nn : Int), RC rv → mA a b rv → B ≤ 20000000 → RunI B p a b c m rv nn → m 0 79 = 0 → (0 ≤ x ∧ x + n = 4) → Blk p rv (bM m) n i e → 0 ≤ i → e ≤ m 0 68 → e = m 52 x.toNat → (∀ c' m' nn', RunO B p a b rv c m c' m' nn nn' x i e → K none (mkC c' rv)) → Z G mX5_doSteps (d + 2 * n + 8) 0 0 0 [vr (some 40), vr (hd p i e), vi x, vu] [] (mkC c rv) K
theorem SpecB_0 : SpecB 0 := by
  intro G d c m K rv B p a b x i e nn hR hA hB hI z hx hb hi he hl k
  have e' : i = e := hb
  subst e'
  rw [hd_nil]
  apply sX5_doSteps_0 hR
  refine ⟨fun _ => ?_, fun q => by omega⟩
  apply sX5_doSteps_8n hR
  exact k c m nn (RunO_r hI)
theorem SpecB_s {n : Nat} (W : SpecW n) : SpecB (n + 1) := by
  intro G d c m K rv B p a b x i e nn hR hA hB hI z hx hb hi he hl k
  have sh := hI.1.2.2
  have hp : p = 55 ∨ p = 119 := sh.1
  have s60 := sh.2.1
  obtain ⟨kk, f, f0, fk, ff⟩ := hb
  have up := up_le (fun i q => (ff i q).1.1)
  have hd0 : hd p i e = if 0 < kk then some (p + 2 + (f 0).toNat) else none := by
    have u := up kk (by omega)
    unfold hd
    by_cases g : kk = 0
    · subst g; rw [if_pos (by omega), if_neg (by omega)]
    · rw [if_neg (by omega), if_pos (by omega), f0]
  rw [hd0]
  apply sX5_doSteps_0 hR
  refine ⟨fun _ => ?_, fun q => by omega⟩
  refine lp_up (σ := (Nat → Nat → Int) × (Nat → Nat → Int) × Int) (P := fun (j : Int) s => Z G mX5_doSteps (d + 2 * (n + 1) + 8) 0 0 8 [vr (some 40), vu, vi x, vr (if j.toNat < kk then some (p + 2 + (f j.toNat).toNat) else none)] [] (mkC s.1 rv) K) (kk : Int) (fun j s => 0 ≤ j ∧ RunO B p a b rv c m s.1 s.2.1 nn s.2.2 x i (f j.toNat)) ?_ ?_ 0 (c, m, nn) (by omega) ⟨by omega, by have := RunO_r (x := x) (i := i) hI; rw [show (0 : Int).toNat = 0 from rfl, f0]; exact this⟩
  · rintro ⟨c1, m1, n1⟩ ⟨-, o⟩
    dsimp only at *
    rw [if_neg (by omega)]
    apply sX5_doSteps_8n hR
    refine k c1 m1 n1 ?_
    rw [show ((kk : Int)).toNat = kk by omega, fk] at o
    exact o
  · rintro j ⟨c1, m1, n1⟩ hj ⟨j0, o⟩ ih
    dsimp only at *
    rw [if_pos (by omega)]
    have jk : j.toNat < kk := by omega
    have u1 := up j.toNat (by omega)
    have u2 := up (j.toNat + 1) (by omega)
    obtain ⟨sb, nx⟩ := ff j.toNat jk
    have lt := sb.1
    have h3 : isSt (p + 2 + (f j.toNat).toNat) := by unfold isSt; omega
    have fr := o.2.2.2.1
    apply sX5_doSteps_8s hR h3
    have e9 := o.2.1.2.2.2.1.1
    rw [e9]
    refine ⟨fun q => k c1 m1 n1 (RunO_e e o q), fun q => ?_⟩
    have e52 := o.2.2.2.2 x hx.1 (by omega) 52 (by decide) (by decide)
    have e68 : m1 0 68 = m 0 68 := rM_0 fr (by decide)
    have sb' : StB (Blk p rv (bM m1) n) p rv (bM m1) (f j.toNat) (f (j.toNat + 1)) := by rw [rM_bM fr]; exact sb
    have := W G d c1 m1 (fun r A1 => Z G mX5_doSteps (d + 2 * (n + 1) + 8) 0 0 25 [vr (some 40), vu, vi x, vr (some (p + 2 + (f j.toNat).toNat))] (r.toList ++ []) A1 K) rv B p a b x (f j.toNat) (f (j.toNat + 1)) n1 hR hA hB o.2.1 q (by omega) sb' (by omega) (by omega) (by omega) (fun c2 m2 n2 o2 => ?_)
    · rw [show d + 2 * n + 9 = d + 2 * (n + 1) + 7 by omega] at this
      exact this
    · show Z G mX5_doSteps (d + 2 * (n + 1) + 8) 0 0 25 [vr (some 40), vu, vi x, vr (some (p + 2 + (f j.toNat).toNat))] [] (mkC c2 rv) K
      apply sX5_doSteps_25 hR h3
      rw [nx]
      have t : (j + 1).toNat = j.toNat + 1 := by omega
      have := ih (c2, m2, n2) ⟨by omega, by rw [t]; exact RunO_t o o2⟩
      rw [t] at this
      exact this

