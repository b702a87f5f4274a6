/-! ===== reading in step: rows of steps, the class ===== -/
theorem SpecT_s {n : Nat} (S : SpecS n) : SpecT (n + 1) := by
  intro G d c m K rv o0 x1 hR ho ht h z hx hn hm h2 k
  refine C_newStep (d := d + 3 * (n + 1)) hR ho ht h z hx (fun _ c' pf f nz => ?_) (fun k0 k6 l60 l4 c1 p1 f1 _ => ?_)
  · obtain ⟨s, n⟩ := StO_bad (rv := rv) (rv' := rv) hm z h2 pf f sR_r nz
    exact k _ _ _ _ s (fun q => absurd q n)
  · have hn' : x1 + (n + 1) = 4 := by omega
    rw [show d + 3 * (n + 1) + 7 = d + 3 * n + 3 + 7 by omega]
    have k' : ∀ c' rv' m' (q : Option Nat), StO o0 c rv m c' rv' m' → (m' 0 51 = 0 → StB (Blk o0 rv' (m' 42) n) o0 rv' (m' 42) (m 0 70) (m' 0 70) ∧ q = some (o0 + 2 + (m 0 70).toNat) ∧ rv' (o0 + 2 + (m 0 70).toNat) 12 = none) → K (some (vr q)) (mkC c' rv') := fun c' rv' m' q so g => k c' rv' m' q so (fun w => ⟨⟨n, rfl, (g w).1⟩, (g w).2.1, l60, (g w).2.2⟩)
    by_cases g4 : knd (wM m) ≤ 4
    · exact T_simple hR ho ht z hm h2 ⟨k0, g4⟩ l60 l4 k ⟨n, rfl⟩ c1 p1 f1
    · by_cases g5 : knd (wM m) = 5
      · exact T_again S hR ho ht z hm h2 g5 l60 l4 hx hn' k' c1 p1 f1
      · exact T_when S hR ho ht z hm h2 (by omega) l60 l4 hx hn' k' c1 p1 f1
/-- what the loop of steps has read -/
def LpI (o n : Nat) (m : Nat → Nat → Int) (j : Int) (rv' : Nat → Nat → Option Nat) (m' : Nat → Nat → Int) (q2 q3 : Option Nat) : Prop := ∃ (k : Nat) (f : Nat → Int), f 0 = m 0 70 ∧ f k = m' 0 70 ∧ (∀ i, i < k → f i < f (i + 1)) ∧ (n = 0 → k = 0) ∧ (∀ n', n = n' + 1 → Chn o rv' (m' 42) n' k f) ∧ (k : Int) = j ∧ q2 = hd o (m 0 70) (m' 0 70) ∧ q3 = (if k = 0 then none else some (o + 2 + (f (k - 1)).toNat))
theorem LpI_blk {o n : Nat} {m m' : Nat → Nat → Int} {j : Int} {rv' : Nat → Nat → Option Nat} {q2 q3 : Option Nat} (h : LpI o n m j rv' m' q2 q3) : Blk o rv' (m' 42) n (m 0 70) (m' 0 70) ∧ q2 = hd o (m 0 70) (m' 0 70) ∧ (0 ≤ j ∧ j ≤ m' 0 70 - m 0 70) := by
  obtain ⟨k, f, f0, fk, up, n0, ch, ej, e2, e3⟩ := h
  have u := up_le up k (by omega)
  refine ⟨?_, e2, by omega, by omega⟩
  cases n with
  | zero =>
    have := n0 rfl
    subst this
    show _ = _
    rw [← f0, ← fk]
  | succ n' =>
    have := Chn_blk (ch n' rfl)
    rw [f0, fk] at this; exact this
theorem LpI_snoc {o n : Nat} {m m1 m2 : Nat → Nat → Int} {j : Int} {rv1 rv2 rv3 : Nat → Nat → Option Nat} {q2 q3 q0 : Option Nat} (h : LpI o n m j rv1 m1 q2 q3) (h0 : 0 ≤ m 0 70) (r2 : sR rv1 rv2 o (m1 0 70)) (hb : ∀ i, i < (12 * m1 0 70).toNat → m2 42 i = m1 42 i) (sb : ∃ n', n = n' + 1 ∧ StB (Blk o rv2 (m2 42) n') o rv2 (m2 42) (m1 0 70) (m2 0 70)) (e0 : q0 = some (o + 2 + (m1 0 70).toNat)) (l60 : m1 0 70 < 60) (e12 : rv2 (o + 2 + (m1 0 70).toNat) 12 = none) (e3 : (q3 = none ∧ rv3 = rv2) ∨ ∃ p, q3 = some p ∧ rv3 = ru rv2 p 12 q0) : LpI o n m (j + 1) rv3 m2 (if q3 = none then q0 else q2) q0 := by
  obtain ⟨n', en, s⟩ := sb
  obtain ⟨k, f, f0, fk, up, n0, ch, ej, e2, e3'⟩ := h
  have u := up_le up
  have uk := u k (by omega)
  have uk1 := u (k - 1) (by omega)
  have p3 : ∀ i : Int, 0 ≤ i → ∀ w, ¬ (0 < k ∧ i = f (k - 1) ∧ w = 12) → rv3 (o + 2 + i.toNat) w = rv2 (o + 2 + i.toNat) w := by
    intro i i0 w g
    rcases e3 with ⟨q, e⟩ | ⟨p, q, e⟩
    · rw [e]
    · rw [e]
      by_cases k0 : k = 0
      · rw [if_pos k0, q] at e3'; cases e3'
      · rw [if_neg k0, q] at e3'
        injection e3' with e3'
        by_cases ep : o + 2 + i.toNat = p
        · rw [ep, ru_k (fun w12 => g ⟨by omega, by omega, w12⟩)]
        · rw [ru_o ep]
  refine ⟨k + 1, fsn k f (m2 0 70), ?_, ?_, ?_, fun g => by omega, fun n'' e'' => ?_, by omega, ?_, ?_⟩
  · unfold fsn; rw [if_pos (by omega)]; exact f0
  · unfold fsn; rw [if_neg (by omega)]
  · intro i q
    unfold fsn
    rw [if_pos (by omega)]
    by_cases g : i = k
    · rw [if_neg (by omega), g, fk]; exact s.1
    · rw [if_pos (by omega)]; exact up i (by omega)
  · have : n'' = n' := by omega
    subst this
    refine Chn_snoc (rv := rv1) (b := m1 42) (ch _ en) (by omega) ?_ ?_ ?_ ?_ ?_
    · rw [fk]
      refine StB_c s (fun x y xl yl p => Blk_c n'' x y p (by omega) (fun i il ir => ⟨fun w => p3 i (by omega) w (fun g => ?_), rfl, rfl, rfl⟩)) (fun w w12 => p3 _ (by omega) w (fun g => w12 g.2.2)) rfl rfl rfl
      have := u (k - 1) (by omega)
      have := up (k - 1) (by omega)
      rw [show k - 1 + 1 = k by omega] at this
      omega
    · rw [fk, p3 _ (by omega) 12 (fun g => ?_)]
      · exact e12
      · have := up (k - 1) (by omega)
        rw [show k - 1 + 1 = k by omega] at this
        omega
    · intro k0
      rw [if_neg (by omega)] at e3'
      rcases e3 with ⟨q, e⟩ | ⟨p, q, e⟩
      · rw [q] at e3'; cases e3'
      · rw [q] at e3'
        injection e3' with e3'
        rw [e, e3', ru_eq, e0, fk]
    · intro i il ir w g
      rw [p3 i (by omega) w g]
      exact r2 _ _ (by omega)
    · intro i q
      exact hb i (by omega)
  · have ne : m 0 70 < m2 0 70 := by have := s.1; omega
    have eh : hd o (m 0 70) (m2 0 70) = some (o + 2 + (m 0 70).toNat) := if_neg (by omega)
    rw [eh]
    by_cases k0 : k = 0
    · rw [if_pos k0] at e3'
      rw [if_pos e3', e0]
      subst k0
      rw [← f0, fk]
    · rw [if_neg k0] at e3'
      rw [if_neg (by rw [e3']; exact fun z => by cases z), e2]
      unfold hd
      rw [if_neg (by omega)]
  · rw [if_neg (by omega), e0]
    unfold fsn
    rw [if_pos (by omega), show k + 1 - 1 = k by omega, fk]
theorem StO_r {o : Nat} {c m : Nat → Nat → Int} {rv : Nat → Nat → Option Nat} (h : PR o c m) (hm : PM m) : StO o c rv m c rv m := ⟨fun _ _ _ k => k, QR_p h, fun _ _ _ _ => rfl, sR_r, mF_r, fun _ => ⟨hm, rfl, fun _ _ _ => ⟨rfl, rfl⟩, Int.le_refl _, fun _ _ => rfl⟩⟩
theorem SpecS_of {n : Nat} (T : SpecT n) : SpecS n := by
  intro G d c m K rv o0 x1 hR ho ht h z hx hn hm k
  apply sX6_readSteps_0 hR ho ht
  have i0 := hm.2.1
  refine lp_up (σ := (Nat → Nat → Int) × (Nat → Nat → Option Nat) × (Nat → Nat → Int) × Option Nat × Option Nat) (P := fun j s => Z G mX6_readSteps (d + 3 * n + 8) 0 0 7 [vr (some o0), vi x1, vr s.2.2.2.1, vr s.2.2.2.2, vi j, vu] [] (mkC s.1 s.2.1) K) 61 (fun j s => 0 ≤ j ∧ StO o0 c rv m s.1 s.2.1 s.2.2.1 ∧ (s.2.2.1 0 51 = 0 → LpI o0 n m j s.2.1 s.2.2.1 s.2.2.2.1 s.2.2.2.2)) ?_ ?_ 0 (c, rv, m, none, none) (by omega) ⟨by omega, StO_r h hm, fun _ => ⟨0, fun _ => m 0 70, rfl, rfl, fun i q => by omega, fun _ => rfl, fun _ _ i q => by omega, rfl, by rw [hd_nil], rfl⟩⟩
  · rintro ⟨c1, rv1, m1, q2, q3⟩ ⟨-, so, li⟩
    dsimp only at *
    apply sX6_readSteps_7 (RC_sR hR ho so.2.2.2.1) ho (sR_4 so.2.2.2.1 ht)
    refine ⟨fun _ => k c1 rv1 m1 q2 so (fun g => ?_), fun g => by omega⟩
    have a := (LpI_blk (li g)).2.2
    have b := (so.2.2.2.2.2 g).1.2.1
    omega
  · rintro j ⟨c1, rv1, m1, q2, q3⟩ hj ⟨j0, so, li⟩ ih
    dsimp only at *
    obtain ⟨a1, a2, a3, a4, a5, a6⟩ := id so
    have hR1 := RC_sR hR ho a4
    have ht1 := sR_4 a4 ht
    apply sX6_readSteps_7 hR1 ho ht1
    refine ⟨fun g => by omega, fun _ => ⟨fun nz => k c1 rv1 m1 q2 so (fun g => by rw [a2.1.1] at nz; exact absurd g nz), fun z12 => ?_⟩⟩
    have z1 : m1 0 51 = 0 := by rw [← a2.1.1]; exact z12
    have pr := a2.2 z1
    have tk := (tk41 pr.1).2.2.2.1
    have lb := LpI_blk (li z1)
    obtain ⟨b1, b2, b3, b4, b5⟩ := a6 z1
    refine ⟨fun n7 => k c1 rv1 m1 q2 so (fun _ => ⟨fun g => n7 (tk.mpr g), lb.1, lb.2.1⟩), fun e7 => ?_⟩
    refine T G d c1 m1 _ rv1 o0 x1 hR1 ho ht1 pr z1 (by omega) hn b1 (tk.mp e7) (fun c2 rv2 m2 q0 so2 ok => ?_)
    have so' := StO_t so z1 so2
    have r2 := so'.2.2.2.1
    show Z G mX6_readSteps (d + 3 * n + 8) 0 0 34 [vr (some o0), vi x1, vr q2, vr q3, vi j, vu] [vr q0] (mkC c2 rv2) K
    have lj := li z1
    cases q3 with
    | none =>
      apply sX6_readSteps_34n (RC_sR hR ho r2) ho (sR_4 r2 ht)
      refine ⟨by omega, ih (c2, rv2, m2, q0, q0) ⟨by omega, so', fun z2 => ?_⟩⟩
      obtain ⟨s1, s2, s3, s4⟩ := ok z2
      have := LpI_snoc (rv3 := rv2) lj i0.1 so2.2.2.2.1 (so2.2.2.2.2.2 z2).2.2.2.2 s1 s2 s3 s4 (Or.inl ⟨rfl, rfl⟩)
      rw [if_pos rfl] at this
      exact this
    | some p =>
      have hp : o0 + 2 + (m 0 70).toNat ≤ p ∧ p < o0 + 62 := by
        obtain ⟨kk, f, f0, fk, up, -, -, -, -, e3⟩ := lj
        have b70 := b1.2.1
        have u := up_le up
        by_cases k0 : kk = 0
        · rw [if_pos k0] at e3; cases e3
        · rw [if_neg k0] at e3
          injection e3 with e3
          have u1 := u (kk - 1) (by omega)
          have u2 := u kk (by omega)
          have u3 := up (kk - 1) (by omega)
          rw [show kk - 1 + 1 = kk by omega] at u3
          omega
      have h3 : isSt p := by unfold isSt; rcases ho with e | e <;> subst e <;> omega
      apply sX6_readSteps_34s (RC_sR hR ho r2) ho h3 (sR_4 r2 ht)
      refine ⟨by omega, ih (c2, ru rv2 p 12 q0, m2, q2, q0) ⟨by omega, ⟨so'.1, so'.2.1, so'.2.2.1, sR_u r2 hp, so'.2.2.2.2⟩, fun z2 => ?_⟩⟩
      obtain ⟨s1, s2, s3, s4⟩ := ok z2
      have := LpI_snoc (rv3 := ru rv2 p 12 q0) lj i0.1 so2.2.2.2.1 (so2.2.2.2.2.2 z2).2.2.2.2 s1 s2 s3 s4 (Or.inr ⟨p, rfl, rfl⟩)
      rw [if_neg (fun e => by cases e)] at this
      exact this
theorem C_readSteps : ∀ n, SpecS n
  | 0 => SpecS_of SpecT_0
  | n + 1 => SpecS_of (SpecT_s (C_readSteps n))

