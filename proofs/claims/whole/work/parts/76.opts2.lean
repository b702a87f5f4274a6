/-! ===== reading in step: options, coupled ===== -/
def QR (o : Nat) (c m : Nat → Nat → Int) : Prop := PF o c m ∧ (m 0 51 = 0 → PR o c m)
theorem QR_p {o : Nat} {c m : Nat → Nat → Int} (h : PR o c m) : QR o c m := ⟨h.2.1, fun _ => h⟩
def numV (l g : Int) (m : Nat → Nat → Int) : Int × (Nat → Nat → Int) := if m 0 45 = 3 ∧ (l ≤ m 0 48 ∧ m 0 48 ≤ g) then (m 0 48, nx m) else (-1, mfail (if m 0 45 = 3 then 4 else 2) m)
theorem numR_e {l g r : Int} {m v : Nat → Nat → Int} (h : numR l g m r v) : r = (numV l g m).1 ∧ v = (numV l g m).2 := by
  unfold numV
  rcases h with ⟨y, e1, e2⟩ | ⟨n, e1, e2⟩
  · unfold nOkB at y; rw [if_pos y]; exact ⟨e1, e2⟩
  · unfold nOkB at n; rw [if_neg n]; exact ⟨e1, e2⟩
theorem mfail_51 {k : Int} {m : Nat → Nat → Int} (hk : 0 < k) : mfail k m 0 51 ≠ 0 := by
  unfold mfail
  split
  · omega
  · rw [mfl_f.2.2.1]; split <;> omega
theorem mfail_f {k : Int} {m : Nat → Nat → Int} : (∀ i, i ≠ 0 → mfail k m i = m i) ∧ (∀ j, j ≠ 50 → j ≠ 51 → mfail k m 0 j = m 0 j) := by
  unfold mfail
  split
  · exact ⟨fun _ _ => rfl, fun _ _ _ => rfl⟩
  · exact ⟨mfl_f.1, mfl_f.2.1⟩
theorem nx_f {m : Nat → Nat → Int} : (∀ i, i ≠ 0 → nx m i = m i) ∧ (∀ j, j ≠ 45 → j ≠ 46 → j ≠ 47 → j ≠ 48 → nx m 0 j = m 0 j) := by
  refine ⟨fun i a => by unfold nx; rw [iu_row a, iu_row a, iu_row a, iu_row a], fun j a b c d => by unfold nx; rw [iu_k a, iu_k c, iu_k d, iu_k b]⟩
theorem numV_f {l g : Int} {m : Nat → Nat → Int} : (∀ i, i ≠ 0 → (numV l g m).2 i = m i) ∧ (numV l g m).2 0 70 = m 0 70 ∧ (numV l g m).2 0 71 = m 0 71 ∧ (numV l g m).2 0 74 = m 0 74 ∧ (numV l g m).2 0 44 = m 0 44 := by
  unfold numV
  split
  · exact ⟨nx_f.1, nx_f.2 70 (by decide) (by decide) (by decide) (by decide), nx_f.2 71 (by decide) (by decide) (by decide) (by decide), nx_f.2 74 (by decide) (by decide) (by decide) (by decide), nx_f.2 44 (by decide) (by decide) (by decide) (by decide)⟩
  · exact ⟨mfail_f.1, mfail_f.2 70 (by decide) (by decide), mfail_f.2 71 (by decide) (by decide), mfail_f.2 74 (by decide) (by decide), mfail_f.2 44 (by decide) (by decide)⟩
theorem C_num {G : ZG} {d : Nat} {c m : Nat → Nat → Int} {K : Option AV → AH → Prop} {rv : Nat → Nat → Option Nat} {o0 : Nat} {x1 x2 : Int} (hR : RC rv) (ho : isSh o0) (ht : rv o0 4 = some 54) (h : PR o0 c m) (h0 : c o0 12 = 0) (k : ∀ c', PR o0 c' (numV x1 x2 m).2 → eF c c' o0 → ((numV x1 x2 m).2 0 51 = 0 → 0 ≤ (numV x1 x2 m).1 ∨ x1 < 0) → K (some (vi (numV x1 x2 m).1)) (mkC c' rv)) : Z G mX6_readNumber (d + 1) 0 0 0 [vr (some o0), vi x1, vi x2, vu] [] (mkC c rv) K := by
  refine C_readNumber hR ho ht h h0 (fun y c' p f e => ?_) (fun n c' p f e => ?_)
  · have ev : numV x1 x2 m = (m 0 48, nx m) := by unfold nOkB at y; unfold numV; rw [if_pos y]
    rw [ev] at k
    exact k c' p f (fun _ => by dsimp only; have := y.2; omega)
  · have ev : numV x1 x2 m = (-1, mfail (if m 0 45 = 3 then 4 else 2) m) := by unfold nOkB at n; unfold numV; rw [if_neg n]
    rw [ev] at k
    exact k c' p f (fun z => absurd z (mfail_51 (by split <;> omega)))
/-- a field of the newest step -/
def fW (f w : Nat) : Prop := (f = 2 ∧ w = 1) ∨ (f = 3 ∧ w = 2) ∨ (f = 4 ∧ w = 3) ∨ (f = 5 ∧ w = 4) ∨ (f = 6 ∧ w = 5) ∨ (f = 7 ∧ w = 9) ∨ (f = 8 ∧ w = 11)
theorem PR_set {o f w : Nat} {c m : Nat → Nat → Int} {i r : Int} (ho : isSh o) (h : PR o c m) (hi : 0 ≤ i ∧ i < m 0 70) (hf : fW f w) : PR o (iu c (o + 2 + i.toNat) f r) (iu m 42 (12 * i + w).toNat r) := by
  obtain ⟨h1, h2, h3, h4⟩ := h
  have s60 := h4.2.1
  have no : (54 : Nat) ≠ o + 2 + i.toNat ∧ o ≠ o + 2 + i.toNat ∧ o + 62 ≠ o + 2 + i.toNat ∧ o + 63 ≠ o + 2 + i.toNat := by
    rcases ho with e | e <;> subst e <;> omega
  have cr : ∀ j, j ≠ o + 2 + i.toNat → iu c (o + 2 + i.toNat) f r j = c j := fun j a => iu_row a
  have mr : ∀ j, j ≠ 42 → iu m 42 (12 * i + w).toNat r j = m j := fun j a => iu_row a
  refine ⟨?_, ?_, ?_, ?_⟩
  · unfold PT TxC TxM at *
    rw [cr 54 no.1, cr o no.2.1, mr 0 (by decide), mr 29 (by decide)]; exact h1
  · unfold PF at *
    rw [cr o no.2.1, mr 0 (by decide)]; exact h2
  · unfold PN at *
    rw [cr o no.2.1, cr (o + 62) no.2.2.1, cr (o + 63) no.2.2.2, mr 0 (by decide), mr 29 (by decide), mr 44 (by decide)]; exact h3
  · unfold PS at *
    rw [cr o no.2.1, mr 0 (by decide)]
    refine ⟨h4.1, h4.2.1, fun z j j0 j1 => ?_⟩
    have s := h4.2.2 z j j0 j1
    unfold stE at *
    by_cases g : j = i
    · subst g
      rcases hf with ⟨rfl, rfl⟩ | ⟨rfl, rfl⟩ | ⟨rfl, rfl⟩ | ⟨rfl, rfl⟩ | ⟨rfl, rfl⟩ | ⟨rfl, rfl⟩ | ⟨rfl, rfl⟩
      all_goals
        obtain ⟨s0, s1, s2, s3, s4, s5, s6, s7, s8, s9⟩ := s
        refine ⟨?_, ?_, ?_, ?_, ?_, ?_, ?_, ?_, ?_, ?_⟩
        all_goals first
          | (rw [iu_k (by decide), iu_k (by omega)]; assumption)
          | (rw [iu_eq]; exact iu_eq.symm)
    · rw [cr (o + 2 + j.toNat) (by omega)]
      have mk : ∀ q : Nat, q < 12 → iu m 42 (12 * i + w).toNat r 42 (12 * j + q).toNat = m 42 (12 * j + q).toNat := fun q hq => iu_k (by unfold fW at hf; omega)
      have m0 := mk 0 (by decide)
      have m1 := mk 1 (by decide)
      have m2 := mk 2 (by decide)
      have m3 := mk 3 (by decide)
      have m4 := mk 4 (by decide)
      have m5 := mk 5 (by decide)
      have m6 := mk 6 (by decide)
      have m9 := mk 9 (by decide)
      have m10 := mk 10 (by decide)
      have m11 := mk 11 (by decide)
      have cst : ∀ (q : Nat) (x : Int), x = (q : Int) → (12 * j + x).toNat = (12 * j + (q : Int)).toNat := fun q x e => by rw [e]
      rw [show (12 * j + 0) = 12 * j + ((0 : Nat) : Int) from rfl, show (12 * j + 1) = 12 * j + ((1 : Nat) : Int) from rfl, show (12 * j + 2) = 12 * j + ((2 : Nat) : Int) from rfl, show (12 * j + 3) = 12 * j + ((3 : Nat) : Int) from rfl, show (12 * j + 4) = 12 * j + ((4 : Nat) : Int) from rfl, show (12 * j + 5) = 12 * j + ((5 : Nat) : Int) from rfl, show (12 * j + 6) = 12 * j + ((6 : Nat) : Int) from rfl, show (12 * j + 9) = 12 * j + ((9 : Nat) : Int) from rfl, show (12 * j + 10) = 12 * j + ((10 : Nat) : Int) from rfl, show (12 * j + 11) = 12 * j + ((11 : Nat) : Int) from rfl, m0, m1, m2, m3, m4, m5, m6, m9, m10, m11]
      exact s
def oIx (w : Int) : Int := if w = 8 then 2 else if w = 9 then 3 else if w = 10 then 4 else if w = 11 then 5 else -1
def oL (x : Int) : Int := if x = 3 ∨ x = 5 then 1 else 0
def oG (x : Int) : Int := if x = 2 then 59 else if x = 4 then 40 else 60
noncomputable def opt1 (i : Int) (m : Nat → Nat → Int) : Nat → Nat → Int := if oIx (wM m) = -1 then mfail 2 m else if m 42 (12 * i + oIx (wM m)).toNat ≠ -1 then mfail 5 m else iu (numV (oL (oIx (wM m))) (oG (oIx (wM m))) (nx m)).2 42 (12 * i + oIx (wM m)).toNat (numV (oL (oIx (wM m))) (oG (oIx (wM m))) (nx m)).1
noncomputable def optV (i : Int) : Nat → (Nat → Nat → Int) → (Nat → Nat → Int)
  | 0, m => m
  | k + 1, m => if m 0 51 = 0 ∧ m 0 45 = 2 then optV i k (opt1 i m) else m
theorem oIx_r (w : Int) : (oIx w = -1 ∧ ¬ w = 8 ∧ ¬ w = 9 ∧ ¬ w = 10 ∧ ¬ w = 11) ∨ (w = 8 ∧ oIx w = 2) ∨ (w = 9 ∧ oIx w = 3) ∨ (w = 10 ∧ oIx w = 4) ∨ (w = 11 ∧ oIx w = 5) := by
  unfold oIx
  split
  · omega
  · split
    · omega
    · split
      · omega
      · split <;> omega
/-- the class's frame while it reads the newest step -/
def hF (c c' : Nat → Nat → Int) (o i : Nat) : Prop := ∀ a j, a ≠ o + 2 + i → a ≠ o + 62 → a ≠ o + 63 → ¬ (a = o ∧ (j = 3 ∨ j = 6 ∨ j = 7 ∨ j = 8 ∨ j = 9 ∨ j = 12 ∨ j = 13)) → c' a j = c a j
theorem hF_g {c c' : Nat → Nat → Int} {o i : Nat} (h : gF c c' o) : hF c c' o i := fun a j _ p q r => h a j p q r
theorem hF_e {c c' : Nat → Nat → Int} {o i : Nat} (h : eF c c' o) : hF c c' o i := hF_g (gF_e h)
theorem hF_t {c c' c'' : Nat → Nat → Int} {o i : Nat} (h : hF c c' o i) (h' : hF c' c'' o i) : hF c c'' o i := fun a j w p q r => by rw [h' a j w p q r, h a j w p q r]
theorem hF_s {c c' : Nat → Nat → Int} {o i f : Nat} {r : Int} (h : hF c c' o i) : hF c (iu c' (o + 2 + i) f r) o i := fun a j w p q z => by rw [iu_o w]; exact h a j w p q z
theorem C_option {G : ZG} {d : Nat} {c m : Nat → Nat → Int} {K : Option AV → AH → Prop} {rv : Nat → Nat → Option Nat} {o0 : Nat} {x1 x2 x3 : Int} (hR : RC rv) (ho : isSh o0) (ht : rv o0 4 = some 54) (h : PR o0 c m) (h0 : c o0 12 = 0) (h2 : m 0 45 = 2) (ky : x1 = -1 → ∀ c', PR o0 c' (numV x2 x3 (nx m)).2 → eF c c' o0 → K (some (vi (numV x2 x3 (nx m)).1)) (mkC c' rv)) (kn : ¬ x1 = -1 → ∀ c', PR o0 c' (mfail 5 m) → eF c c' o0 → K (some (vi (-1))) (mkC c' rv)) : Z G mX6_readOption (d + 2) 0 0 0 [vr (some o0), vi x1, vi x2, vi x3] [] (mkC c rv) K := by
  have pt := h.1
  apply sX6_readOption_0 hR ho ht
  refine ⟨fun e => ⟨by have := pt.1.1; omega, pt.1.1.2.2.2, pt.1.2.1, fun v f => ?_⟩, fun n => ?_⟩
  · have p1 := PR_next ho h f.1 f.2
    refine C_num hR ho ht p1 (by rw [f.1 o0 12 (by omega)]; exact h0) (fun c' p f' _ => ?_)
    refine Z.fg (L' := [vu, vu, vu, vu]) ⟨Or.inr rfl, Or.inr rfl, Or.inr rfl, Or.inr rfl, trivial⟩ ?_
    apply sX6_readOption_22 hR
    exact ky e c' p (eF_t (eF_a f.1) f')
  · refine C_bla hR ho h0 ?_
    refine Z.fg (L' := [vu, vu, vu, vu]) ⟨Or.inr rfl, Or.inr rfl, Or.inr rfl, Or.inr rfl, trivial⟩ ?_
    apply sX6_readOption_10 hR
    exact kn n _ (PR_bla ho (by omega) h h0 (by omega)) eF_c
theorem C_readOptions {G : ZG} {d : Nat} {c m : Nat → Nat → Int} {K : Option AV → AH → Prop} {rv : Nat → Nat → Option Nat} {o0 : Nat} {i : Int} (hR : RC rv) (ho : isSh o0) (ht : rv o0 4 = some 54) (h : PR o0 c m) (h0 : m 0 51 = 0) (hi : 0 ≤ i ∧ i < m 0 70) (k : ∀ c', QR o0 c' (optV i 5 m) → hF c c' o0 i.toNat → K none (mkC c' rv)) : Z G mX6_readOptions (d + 6) 0 0 0 [vr (some o0), vr (some (o0 + 2 + i.toNat)), vu] [] (mkC c rv) K := by
  have s60 := h.2.2.2.2.1
  have h1 : isSt (o0 + 2 + i.toNat) := by unfold isSt; rcases ho with e | e <;> subst e <;> omega
  apply sX6_readOptions_0 hR ho h1 ht
  generalize hW : optV i 5 m = W at k
  refine lp_up (σ := (Nat → Nat → Int) × (Nat → Nat → Int)) (P := fun j s => Z G mX6_readOptions (d + 6) 0 0 2 [vr (some o0), vr (some (o0 + 2 + i.toNat)), vi j] [] (mkC s.1 rv) K) 5 (fun j s => 0 ≤ j ∧ QR o0 s.1 s.2 ∧ hF c s.1 o0 i.toNat ∧ optV i (5 - j).toNat s.2 = W ∧ (s.2 0 51 = 0 → s.2 0 70 = m 0 70)) ?_ ?_ 0 (c, m) (by omega) ⟨by omega, QR_p h, fun _ _ _ _ _ _ => rfl, hW, fun _ => rfl⟩
  · rintro ⟨c1, m1⟩ ⟨-, q, f, e, -⟩
    dsimp only at *
    apply sX6_readOptions_2 hR ho h1 ht
    refine ⟨fun _ => k c1 ?_ f, fun z => by omega⟩
    rw [← e]; exact q
  · rintro j ⟨c1, m1⟩ hj ⟨j0, q, f, e, e70⟩ ih
    dsimp only at *
    rw [show (5 - j).toNat = (5 - (j + 1)).toNat + 1 by omega] at e
    have stop : ¬ (m1 0 51 = 0 ∧ m1 0 45 = 2) → K none (mkC c1 rv) := by
      intro n
      unfold optV at e
      rw [if_neg n] at e
      exact k c1 (by rw [← e]; exact q) f
    have go : (m1 0 51 = 0 ∧ m1 0 45 = 2) → ∀ c2, QR o0 c2 (opt1 i m1) → hF c1 c2 o0 i.toNat → (opt1 i m1 0 51 = 0 → opt1 i m1 0 70 = m1 0 70) → Z G mX6_readOptions (d + 6) 0 0 2 [vr (some o0), vr (some (o0 + 2 + i.toNat)), vi (j + 1)] [] (mkC c2 rv) K := by
      intro y c2 q2 f2 e2
      unfold optV at e
      rw [if_pos y] at e
      exact ih (c2, opt1 i m1) ⟨by omega, q2, hF_t f f2, e, fun z => by have z1 := e2 z; have z2 := e70 y.1; exact z1.trans z2⟩
    apply sX6_readOptions_2 hR ho h1 ht
    have pf := q.1.1
    refine ⟨fun z => by omega, fun _ => ⟨fun n => stop (fun z => n (by omega)), fun z0 => ?_⟩⟩
    have m0 : m1 0 51 = 0 := by omega
    have p := q.2 m0
    have t := tk41 p.1
    have tx := p.1.1
    have ew := PT_w p.1
    have i1 : 0 ≤ i ∧ i < m1 0 70 := by rw [e70 m0]; exact hi
    have st := p.2.2.2.2.2 m0 i i1.1 i1.2
    unfold stE at st
    refine ⟨fun n => stop (fun z => n (t.2.2.2.1.mpr z.2)), fun e1 => ?_⟩
    have e2 := t.2.2.2.1.mp e1
    rw [ew]
    -- one option, whichever it is
    have yes : ∀ (fc w : Nat) (ix l g : Int), oIx (wM m1) = ix → ix = (w : Int) → l = oL ix → g = oG ix → fW fc w → c1 (o0 + 2 + i.toNat) fc = m1 42 (12 * i + ix).toNat → c1 (o0 + 2 + i.toNat) fc = -1 → ∀ c', PR o0 c' (numV l g (nx m1)).2 → eF c1 c' o0 → Z G mX6_readOptions (d + 6) 0 0 2 [vr (some o0), vr (some (o0 + 2 + i.toNat)), vi (j + 1)] [] (mkC (iu c' (o0 + 2 + i.toNat) fc (numV l g (nx m1)).1) rv) K := by
      intro fc w ix l g hx hw hl hg hfw hc hm c' pp ff
      have eo : opt1 i m1 = iu (numV l g (nx m1)).2 42 (12 * i + (w : Int)).toNat (numV l g (nx m1)).1 := by
        unfold opt1
        rw [hx, if_neg (by omega), if_neg (by rw [← hc]; exact fun z => z hm), ← hl, ← hg, hw]
      have n70 : (numV l g (nx m1)).2 0 70 = m1 0 70 := by rw [numV_f.2.1]; exact nx_f.2 70 (by decide) (by decide) (by decide) (by decide)
      refine go ⟨m0, e2⟩ _ ?_ (hF_s (hF_e ff)) ?_
      · rw [eo]
        exact QR_p (PR_set ho pp (by rw [n70]; exact i1) hfw)
      · intro _; rw [eo, iu_o (by decide)]; exact n70
    have no : ∀ (fc w : Nat) (ix : Int), oIx (wM m1) = ix → ix = (w : Int) → c1 (o0 + 2 + i.toNat) fc = m1 42 (12 * i + ix).toNat → ¬ c1 (o0 + 2 + i.toNat) fc = -1 → ∀ c', PR o0 c' (mfail 5 m1) → eF c1 c' o0 → Z G mX6_readOptions (d + 6) 0 0 2 [vr (some o0), vr (some (o0 + 2 + i.toNat)), vi (j + 1)] [] (mkC (iu c' (o0 + 2 + i.toNat) fc (-1)) rv) K := by
      intro fc w ix hx hw hc hm c' pp ff
      have eo : opt1 i m1 = mfail 5 m1 := by
        unfold opt1
        rw [hx, if_neg (by omega), if_pos (by rw [← hc]; exact hm)]
      have nz := mfail_51 (k := 5) (m := m1) (by omega)
      refine go ⟨m0, e2⟩ _ ?_ (hF_s (hF_e ff)) ?_
      · rw [eo]
        have p2 := pp.2.1
        refine ⟨?_, fun z => absurd z nz⟩
        unfold PF at *
        rw [iu_row (by omega)]; exact p2
      · intro z; rw [eo] at z; exact absurd z nz
    have rx := oIx_r (wM m1)
    refine ⟨tx, fun n8 => ⟨tx, fun n9 => ⟨tx, fun n10 => ⟨tx, fun n11 => ?_, fun y => ?_⟩, fun y => ?_⟩, fun y => ?_⟩, fun y => ?_⟩
    · refine C_mis hR ho z0 ?_
      apply sX6_readOptions_134 hR ho h1 ht
      have eo : opt1 i m1 = mfail 2 m1 := by unfold opt1; rw [if_pos (by omega)]
      have nz := mfail_51 (k := 2) (m := m1) (by omega)
      refine ⟨by omega, go ⟨m0, e2⟩ _ ?_ (hF_e eF_c) ?_⟩
      · rw [eo]; exact QR_p (PR_mis ho p z0)
      · intro z; rw [eo] at z; exact absurd z nz
    · refine C_option hR ho ht p z0 e2 (fun x c' pp ff => ?_) (fun x c' pp ff => ?_)
      · apply sX6_readOptions_124 hR ho h1 ht
        exact ⟨by omega, yes 6 5 5 1 60 (by omega) rfl (by decide) (by decide) (by unfold fW; omega) st.2.2.2.2.2.2.1 x c' pp ff⟩
      · apply sX6_readOptions_124 hR ho h1 ht
        exact ⟨by omega, no 6 5 5 (by omega) rfl st.2.2.2.2.2.2.1 x c' pp ff⟩
    · refine C_option hR ho ht p z0 e2 (fun x c' pp ff => ?_) (fun x c' pp ff => ?_)
      · apply sX6_readOptions_97 hR ho h1 ht
        exact ⟨by omega, yes 5 4 4 0 40 (by omega) rfl (by decide) (by decide) (by unfold fW; omega) st.2.2.2.2.2.1 x c' pp ff⟩
      · apply sX6_readOptions_97 hR ho h1 ht
        exact ⟨by omega, no 5 4 4 (by omega) rfl st.2.2.2.2.2.1 x c' pp ff⟩
    · refine C_option hR ho ht p z0 e2 (fun x c' pp ff => ?_) (fun x c' pp ff => ?_)
      · apply sX6_readOptions_70 hR ho h1 ht
        exact ⟨by omega, yes 4 3 3 1 60 (by omega) rfl (by decide) (by decide) (by unfold fW; omega) st.2.2.2.2.1 x c' pp ff⟩
      · apply sX6_readOptions_70 hR ho h1 ht
        exact ⟨by omega, no 4 3 3 (by omega) rfl st.2.2.2.2.1 x c' pp ff⟩
    · refine C_option hR ho ht p z0 e2 (fun x c' pp ff => ?_) (fun x c' pp ff => ?_)
      · apply sX6_readOptions_43 hR ho h1 ht
        exact ⟨by omega, yes 3 2 2 0 59 (by omega) rfl (by decide) (by decide) (by unfold fW; omega) st.2.2.2.1 x c' pp ff⟩
      · apply sX6_readOptions_43 hR ho h1 ht
        exact ⟨by omega, no 3 2 2 (by omega) rfl st.2.2.2.1 x c' pp ff⟩

