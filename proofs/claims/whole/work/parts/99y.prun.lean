/-! ===== the public methods: a run ===== -/
theorem ctk_40 : ∀ i, i < ctC.length → (ctk i).1 = 40 → (ctk i).2.1 < 3 := by decide +kernel
theorem RC_40 {rv : Nat → Nat → Option Nat} {j : Nat} {x : Option Nat} (hR : RC rv) (hj : 3 ≤ j) : RC (ru rv 40 j x) := by
  intro i
  unfold ru
  rw [if_neg]
  · exact hR i
  · intro e
    by_cases h : i < ctC.length
    · have := ctk_40 i h e.1
      omega
    · have : ctk i = (0, 0, 1) := by unfold ctk; rw [List.getD_eq_getElem?_getD, List.getElem?_eq_none (by omega)]; rfl
      rw [this] at e
      dsimp only at e
      omega
def swR (rv : Nat → Nat → Option Nat) (a b a' b' : Nat) : Nat → Nat → Option Nat := ru (ru (ru (ru rv 40 3 (some a')) 40 4 (some b')) 40 5 (some a)) 40 6 (some b)
theorem swR_f {rv : Nat → Nat → Option Nat} {a b a' b' : Nat} (hR : RC rv) : RC (swR rv a b a' b') ∧ swR rv a b a' b' 40 3 = some a' ∧ swR rv a b a' b' 40 4 = some b' ∧ swR rv a b a' b' 40 5 = some a ∧ swR rv a b a' b' 40 6 = some b ∧ ∀ i j, ¬ (i = 40 ∧ 3 ≤ j ∧ j ≤ 6) → swR rv a b a' b' i j = rv i j := by
  unfold swR
  refine ⟨RC_40 (RC_40 (RC_40 (RC_40 hR (by decide)) (by decide)) (by decide)) (by decide), ?_, ?_, ?_, ru_eq, fun i j q => ?_⟩
  · rw [ru_k (by decide), ru_k (by decide), ru_k (by decide), ru_eq]
  · rw [ru_k (by decide), ru_k (by decide), ru_eq]
  · rw [ru_k (by decide), ru_eq]
  · unfold ru
    rw [if_neg (by omega), if_neg (by omega), if_neg (by omega), if_neg (by omega)]
theorem kpA_c (s : Int) : kpA s = 42 ∨ kpA s = 46 := by unfold kpA; split <;> simp
/-- a side kept and emptied -/
def KP (s : Int) (c c' : Nat → Nat → Int) : Prop := (∀ i j, ¬ (kpA s ≤ i ∧ i ≤ kpA s + 2) → ¬ (i = sdA s ∧ (j = 4 ∨ j = 5 ∨ j = 6)) → c' i j = c i j) ∧ (c' (sdA s) 4 = 0 ∧ c' (sdA s) 5 = -1 ∧ c' (sdA s) 6 = c (sdA s) 6 + 1) ∧ (c' (kpA s) 4 = c (sdA s) 4 ∧ c' (kpA s) 5 = c (sdA s) 5 ∧ c' (kpA s) 6 = c (kpA s) 6 + 1) ∧ (∀ p : Int, 0 ≤ p → p < c (sdA s) 4 → c' (kpA s + 1) p.toNat = c (sdA s + 1) p.toNat ∧ c' (kpA s + 2) p.toNat = c (sdA s + 2) p.toNat)
theorem C_perf1 {G : ZG} {d : Nat} {K : Option AV → AH → Prop} {c : Nat → Nat → Int} {rv : Nat → Nat → Option Nat} {p1 : Nat} {s : Int} (hR : RC rv) (hp : isSh p1) (hs : 0 ≤ s ∧ s < 2) (h4 : 0 ≤ c (sdA s) 4 ∧ c (sdA s) 4 ≤ 400) (h6 : 0 ≤ c (kpA s) 6 ∧ c (kpA s) 6 ≤ 100000000) (g6 : 0 ≤ c (sdA s) 6 ∧ c (sdA s) 6 ≤ 100000000) (k : ∀ c', KP s c c' → Z G mX5_perform (d + 17) 0 0 2 [vr (some 40), vr (some p1), vi (s + 1)] [] (mkC c' rv) K) : Z G mX5_perform (d + 17) 0 0 2 [vr (some 40), vr (some p1), vi s] [] (mkC c rv) K := by
  have so := sdA_c s
  have ko := kpA_c s
  apply sX5_perform_2 hR hp
  refine ⟨fun z => by omega, fun _ => ⟨by omega, by omega, by omega, h4, h6, fun v q => ?_⟩⟩
  obtain ⟨q1, q2, q3⟩ := q
  have e6 : v (sdA s) 6 = c (sdA s) 6 := q1 _ _ (by omega) (by omega) (by omega)
  rw [e6]
  refine ⟨by omega, g6, by omega, k _ ⟨fun i j x y => ?_, ⟨?_, ?_, ?_⟩, ⟨?_, ?_, ?_⟩, fun p p0 p1 => ?_⟩⟩
  · rw [iu_ap, if_neg (by omega), iu_ap, if_neg (by omega), iu_ap, if_neg (by omega)]
    exact q1 i j (by omega) (by omega) (by omega)
  · rw [iu_k (by decide), iu_k (by decide), iu_eq]
  · rw [iu_k (by decide), iu_eq]
  · rw [iu_eq]
  · rw [iu_o (by omega), iu_o (by omega), iu_o (by omega)]; exact q2.1
  · rw [iu_o (by omega), iu_o (by omega), iu_o (by omega)]; exact q2.2.1
  · rw [iu_o (by omega), iu_o (by omega), iu_o (by omega)]; exact q2.2.2
  · rw [iu_o (by omega), iu_o (by omega), iu_o (by omega), iu_o (by omega), iu_o (by omega), iu_o (by omega)]; exact q3 p p0 p1
/-- both sides kept -/
def KK (c c' : Nat → Nat → Int) : Prop := (∀ i j, ¬ (42 ≤ i ∧ i ≤ 48) → ¬ ((i = 16 ∨ i = 20) ∧ (j = 4 ∨ j = 5 ∨ j = 6)) → c' i j = c i j) ∧ (∀ s : Int, (s = 0 ∨ s = 1) → (c' (sdA s) 4 = 0 ∧ c' (sdA s) 5 = -1 ∧ c' (sdA s) 6 = c (sdA s) 6 + 1) ∧ (c' (kpA s) 4 = c (sdA s) 4 ∧ c' (kpA s) 5 = c (sdA s) 5 ∧ c' (kpA s) 6 = c (kpA s) 6 + 1) ∧ (∀ p : Int, 0 ≤ p → p < c (sdA s) 4 → c' (kpA s + 1) p.toNat = c (sdA s + 1) p.toNat ∧ c' (kpA s + 2) p.toNat = c (sdA s + 2) p.toNat))
theorem KK_of {c c1 c2 : Nat → Nat → Int} (h : KP 0 c c1) (h' : KP 1 c1 c2) : KK c c2 := by
  obtain ⟨a1, a2, a3, a4⟩ := h
  obtain ⟨b1, b2, b3, b4⟩ := h'
  have e0 : sdA 0 = 16 := rfl
  have e1 : sdA 1 = 20 := rfl
  have f0 : kpA 0 = 42 := rfl
  have f1 : kpA 1 = 46 := rfl
  rw [e0, f0] at a1 a3 a4
  rw [e0] at a2
  rw [e1, f1] at b1 b3 b4
  rw [e1] at b2
  refine ⟨fun i j x y => by rw [b1 i j (by omega) (by omega), a1 i j (by omega) (by omega)], fun s hs => ?_⟩
  rcases hs with e | e <;> subst e
  · rw [e0, f0]
    refine ⟨?_, ?_, fun p p0 p1 => ?_⟩
    · rw [b1 16 4 (by omega) (by omega), b1 16 5 (by omega) (by omega), b1 16 6 (by omega) (by omega)]; exact a2
    · rw [b1 42 4 (by omega) (by omega), b1 42 5 (by omega) (by omega), b1 42 6 (by omega) (by omega)]; exact a3
    · rw [b1 43 _ (by omega) (by omega), b1 44 _ (by omega) (by omega)]; exact a4 p p0 p1
  · rw [e1, f1]
    have g : ∀ i j, (20 ≤ i ∧ i ≤ 22) ∨ 46 ≤ i → c1 i j = c i j := fun i j q => a1 i j (by omega) (by omega)
    rw [g 20 6 (by omega)] at b2
    rw [g 20 4 (by omega), g 20 5 (by omega), g 46 6 (by omega)] at b3
    rw [g 20 4 (by omega)] at b4
    refine ⟨b2, b3, fun p p0 p1 => ?_⟩
    have := b4 p p0 p1
    rw [g 21 _ (by omega), g 22 _ (by omega)] at this
    exact this
/-- a side brought back -/
def KQ (s : Int) (c c' : Nat → Nat → Int) : Prop := (∀ i j, i ≠ sdA s + 1 → i ≠ sdA s + 2 → ¬ (i = sdA s ∧ (j = 4 ∨ j = 5 ∨ j = 6)) → c' i j = c i j) ∧ (c' (sdA s) 4 = c (kpA s) 4 ∧ c' (sdA s) 5 = c (kpA s) 5 ∧ c' (sdA s) 6 = c (sdA s) 6 + 1) ∧ (∀ p : Int, 0 ≤ p → p < c (kpA s) 4 → c' (sdA s + 1) p.toNat = c (kpA s + 1) p.toNat ∧ c' (sdA s + 2) p.toNat = c (kpA s + 2) p.toNat)
theorem C_perf2 {G : ZG} {d : Nat} {K : Option AV → AH → Prop} {c : Nat → Nat → Int} {rv : Nat → Nat → Option Nat} {s : Int} (hR : RC rv) (hs : 0 ≤ s ∧ s < 2) (h4 : 0 ≤ c (kpA s) 4 ∧ c (kpA s) 4 ≤ 400) (g6 : 0 ≤ c (sdA s) 6 ∧ c (sdA s) 6 ≤ 100000000) (k : ∀ c', KQ s c c' → Z G mX5_perform (d + 17) 0 0 85 [vr (some 40), vu, vi (s + 1)] [] (mkC c' rv) K) : Z G mX5_perform (d + 17) 0 0 85 [vr (some 40), vu, vi s] [] (mkC c rv) K := by
  have so := sdA_c s
  have ko := kpA_c s
  apply sX5_perform_85 hR
  exact ⟨fun z => by omega, fun _ => ⟨by omega, by omega, by omega, h4, g6, fun v q => ⟨by omega, k v q⟩⟩⟩
def KR (c c' : Nat → Nat → Int) : Prop := (∀ i j, ¬ (16 ≤ i ∧ i ≤ 23) → c' i j = c i j) ∧ (∀ s : Int, (s = 0 ∨ s = 1) → c' (sdA s) 7 = c (sdA s) 7 ∧ (c' (sdA s) 4 = c (kpA s) 4 ∧ c' (sdA s) 5 = c (kpA s) 5 ∧ c' (sdA s) 6 = c (sdA s) 6 + 1) ∧ (∀ p : Int, 0 ≤ p → p < c (kpA s) 4 → c' (sdA s + 1) p.toNat = c (kpA s + 1) p.toNat ∧ c' (sdA s + 2) p.toNat = c (kpA s + 2) p.toNat))
theorem KR_of {c c1 c2 : Nat → Nat → Int} (h : KQ 0 c c1) (h' : KQ 1 c1 c2) : KR c c2 := by
  obtain ⟨a1, a2, a3⟩ := h
  obtain ⟨b1, b2, b3⟩ := h'
  have e0 : sdA 0 = 16 := rfl
  have e1 : sdA 1 = 20 := rfl
  have f0 : kpA 0 = 42 := rfl
  have f1 : kpA 1 = 46 := rfl
  rw [e0, f0] at a2 a3
  rw [e0] at a1
  rw [e1, f1] at b2 b3
  rw [e1] at b1
  refine ⟨fun i j x => by rw [b1 i j (by omega) (by omega) (by omega), a1 i j (by omega) (by omega) (by omega)], fun s hs => ?_⟩
  rcases hs with e | e <;> subst e
  · rw [e0, f0]
    refine ⟨by rw [b1 16 7 (by omega) (by omega) (by omega), a1 16 7 (by omega) (by omega) (by omega)], ?_, fun p p0 p1 => ?_⟩
    · rw [b1 16 4 (by omega) (by omega) (by omega), b1 16 5 (by omega) (by omega) (by omega), b1 16 6 (by omega) (by omega) (by omega)]; exact a2
    · rw [b1 17 _ (by omega) (by omega) (by omega), b1 18 _ (by omega) (by omega) (by omega)]; exact a3 p p0 p1
  · rw [e1, f1]
    have g : ∀ i j, 20 ≤ i → c1 i j = c i j := fun i j q => a1 i j (by omega) (by omega) (by omega)
    rw [g 46 4 (by omega), g 46 5 (by omega), g 20 6 (by omega)] at b2
    rw [g 46 4 (by omega)] at b3
    refine ⟨by rw [b1 20 7 (by omega) (by omega) (by omega), g 20 7 (by omega)], b2, fun p p0 p1 => ?_⟩
    have := b3 p p0 p1
    rw [g 47 _ (by omega), g 48 _ (by omega)] at this
    exact this
/-- the model at the beginning of a run -/
def st3 (m : Nat → Nat → Int) : Nat → Nat → Int := iu (iu (iu (iu (iu (iu (ifill (iu (iu (iu (iu (kpF m) 7 0 0) 10 0 (-1)) 7 1 0) 10 1 (-1)) 47 0 8 (-1)) 0 81 0) 0 79 0) 0 80 (-1)) 51 0 0) 52 0 (m 0 68)) 53 0 0
theorem st3_f {m : Nat → Nat → Int} : (∀ i j, ¬ (11 ≤ i ∧ i ≤ 14) ∧ ¬ (47 ≤ i ∧ i ≤ 53) ∧ i ≠ 7 ∧ i ≠ 10 ∧ ¬ (i = 0 ∧ (79 ≤ j ∧ j ≤ 81)) → st3 m i j = m i j) ∧ (∀ s : Int, (s = 0 ∨ s = 1) → st3 m 7 s.toNat = 0 ∧ st3 m 10 s.toNat = -1 ∧ st3 m 11 s.toNat = m 7 s.toNat ∧ st3 m 14 s.toNat = m 10 s.toNat) ∧ (∀ j, j < 800 → st3 m 12 j = m 8 j ∧ st3 m 13 j = m 9 j) ∧ (∀ j, j < 8 → st3 m 47 j = -1 ∧ st3 m 49 j = m 47 j ∧ st3 m 50 j = m 48 j) ∧ (st3 m 0 81 = 0 ∧ st3 m 0 79 = 0 ∧ st3 m 0 80 = -1) ∧ (st3 m 52 0 = m 0 68 ∧ st3 m 53 0 = 0) := by
  obtain ⟨k1, k2, k3, k4⟩ := kpF_f (m := m)
  have base : ∀ i j, ¬ (i = 0 ∧ (79 ≤ j ∧ j ≤ 81)) → ¬ (51 ≤ i ∧ i ≤ 53) → st3 m i j = ifill (iu (iu (iu (iu (kpF m) 7 0 0) 10 0 (-1)) 7 1 0) 10 1 (-1)) 47 0 8 (-1) i j := fun i j x y => by
    unfold st3
    rw [iu_o (by omega), iu_o (by omega), iu_o (by omega), iu_ap, if_neg (by omega), iu_ap, if_neg (by omega), iu_ap, if_neg (by omega)]
  have b2 : ∀ i j, ¬ (i = 0 ∧ (79 ≤ j ∧ j ≤ 81)) → ¬ (51 ≤ i ∧ i ≤ 53) → i ≠ 47 → i ≠ 7 → i ≠ 10 → st3 m i j = kpF m i j := fun i j x y a b c => by
    rw [base i j x y, ifill_row a, iu_o c, iu_o b, iu_o c, iu_o b]
  refine ⟨fun i j q => ?_, fun s hs => ?_, fun j a => ?_, fun j a => ?_, ?_, ?_⟩
  · rw [b2 i j (by omega) (by omega) (by omega) (by omega) (by omega), k1 i j (by omega) (by omega) (by omega)]
  · rw [b2 11 _ (by omega) (by omega) (by omega) (by omega) (by omega), b2 14 _ (by omega) (by omega) (by omega) (by omega) (by omega), base 7 _ (by omega) (by omega), base 10 _ (by omega) (by omega), ifill_row (by decide), ifill_row (by decide), (k2 s.toNat (by omega)).1, (k2 s.toNat (by omega)).2]
    rcases hs with e | e <;> subst e
    · refine ⟨?_, ?_, rfl, rfl⟩
      · rw [iu_o (by decide), iu_k (by decide), iu_o (by decide)]; exact iu_eq
      · rw [iu_k (by decide), iu_o (by decide)]; exact iu_eq
    · refine ⟨?_, ?_, rfl, rfl⟩
      · rw [iu_o (by decide)]; exact iu_eq
      · exact iu_eq
  · rw [b2 12 _ (by omega) (by omega) (by omega) (by omega) (by omega), b2 13 _ (by omega) (by omega) (by omega) (by omega) (by omega)]; exact k3 j a
  · rw [b2 49 _ (by omega) (by omega) (by omega) (by omega) (by omega), b2 50 _ (by omega) (by omega) (by omega) (by omega) (by omega), base 47 _ (by omega) (by omega), ifill_ap, if_pos ⟨rfl, by omega, by omega⟩]
    exact ⟨rfl, k4 j a⟩
  · unfold st3
    refine ⟨?_, ?_, ?_⟩
    · rw [iu_o (by decide), iu_o (by decide), iu_o (by decide), iu_k (by decide), iu_k (by decide), iu_eq]
    · rw [iu_o (by decide), iu_o (by decide), iu_o (by decide), iu_k (by decide), iu_eq]
    · rw [iu_o (by decide), iu_o (by decide), iu_o (by decide), iu_eq]
  · unfold st3
    refine ⟨?_, iu_eq⟩
    rw [iu_o (by decide), iu_eq]
theorem M_runStart {G : ZG} {d : Nat} {K : Option AV → AH → Prop} {m : Nat → Nat → Int} (n : ¬ m 0 52 = 0) (k : LJ G d K 0 0 0 (st3 m)) : Z G mX12_run (d + 5) 0 0 0 [vr (some 0), vu, vu, vu, vu, vu, vu, vu] [] (mkM m) K := by
  unfold LJ st3 at k
  have e68 : kpF m 0 68 = m 0 68 := kpF_f.1 0 68 (by omega) (by decide) (by decide)
  apply sX12_run_0
  refine ⟨fun _ => M_keepF ?_, fun e => absurd e n⟩
  show Z G mX12_run (d + 5) 0 0 19 [vr (some 0), vu, vu, vu, vu, vu, vu, vu] [] (mkM (kpF m)) K
  apply sX12_run_19
  refine ⟨by decide, by decide, ?_⟩
  rw [show (0 : Int).toNat = 0 from rfl, show (1 : Int).toNat = 1 from rfl]
  have e68' : (iu (iu (iu (iu (kpF m) 7 0 0) 10 0 (-1)) 7 1 0) 10 1 (-1)) 0 68 = m 0 68 := by rw [iu_o (by decide), iu_o (by decide), iu_o (by decide), iu_o (by decide)]; exact e68
  generalize (iu (iu (iu (iu (kpF m) 7 0 0) 10 0 (-1)) 7 1 0) 10 1 (-1)) = w at *
  refine lp_up (P := fun q v => Z G mX12_run (d + 5) 0 0 31 [vr (some 0), vi q, vu, vu, vu, vu, vu, vu] [] (mkM v) K) 8 (fun q v => 0 ≤ q ∧ v = ifill w 47 0 q.toNat (-1)) ?_ ?_ 0 w (by omega) ⟨by omega, ifill_nil.symm⟩
  · rintro v ⟨-, ev⟩
    have e2 : v = ifill w 47 0 8 (-1) := ev
    apply sX12_run_31
    refine ⟨fun _ => ?_, fun z => by omega⟩
    rw [e2, ifill_row (i := 0) (by decide), e68']
    exact k
  · rintro q v hq ⟨q0, ev⟩ ih
    apply sX12_run_31
    refine ⟨fun z => by omega, fun _ => ⟨by omega, by omega, ih _ ⟨by omega, ?_⟩⟩⟩
    rw [ev, show (q + 1).toNat = q.toNat + 1 by omega]
    exact ifill_snoc (by omega)
theorem RL_w {B x : Int} {v m w : Nat → Nat → Int} {rv : Nat → Nat → Option Nat} (h : RL B v rv m) (hw : ∀ i j, ¬ mS i j → w i j = m i j) : RL B (iu v 0 17 x) rv (iu w 0 0 x) := RL_f h (fun i j q => by unfold cS at q; rw [iu_ap, if_neg (by omega)]) (fun i j q => by have := hw i j q; unfold mS at q; rw [iu_ap, if_neg (by omega)]; exact this) (by rw [iu_eq, iu_eq])
theorem rv_p {p : Nat} (h : isSh p) : p ≠ 40 := by rcases h with e | e <;> subst e <;> decide
theorem P_run {G G' : ZG} {c m : Nat → Nat → Int} {rv : Nat → Nat → Option Nat} {B : Int} (h : RL B c rv m) (hB : 0 ≤ B ∧ B ≤ 10000000) : Z G mX11_run 40 0 0 0 [vr (some 0)] [] (mkC c rv) (QC G' mX12_run [vr (some 0), vu, vu, vu, vu, vu, vu, vu] m (B + 1000)) := by
  obtain ⟨a0, a1, a2, a3, a4, a5, a6, a7, a8, a9, a10, a11, a12, a13⟩ := id h
  obtain ⟨p1, p2, a, b, a', b', hx⟩ := a13
  obtain ⟨g1, g2, g3, g4, g5, g6, g7, g8, g9, g10⟩ := id hx
  have hp : isSh p1 := by unfold isSh; omega
  have gab := g6.2.2
  apply sX11_run_0 a0 hp g2
  rw [g4.1]
  refine ⟨fun n => ?_, fun n => ⟨_, rv, rfl, sX12_run_0 ⟨fun e => absurd n e, fun _ => QM_u h⟩⟩⟩
  have sh := g5 (by omega)
  have ss := a6.1
  have e0 : sdA 0 = 16 := rfl
  have e1 : sdA 1 = 20 := rfl
  have f0 : kpA 0 = 42 := rfl
  have f1 : kpA 1 = 46 := rfl
  have d0 := ss 0 (Or.inl rfl)
  have d1 := ss 1 (Or.inr rfl)
  have k42 := a6.2.1
  have k46 := a6.2.2
  have r14 := a4.2.2
  apply sX5_perform_0 a0 hp
  refine C_perf1 a0 hp (by decide) (by rw [d0.1.1]; exact d0.1.2.1) (by rw [f0]; omega) (by omega) (fun c1 kp0 => ?_)
  have c1e : ∀ i j, 20 ≤ i → (i < 42 ∨ 45 ≤ i) → c1 i j = c i j := fun i j x y => kp0.1 i j (by omega) (by omega)
  refine C_perf1 (s := 1) a0 hp (by decide) (by rw [e1, c1e 20 4 (by omega) (by omega), ← e1, d1.1.1]; exact d1.1.2.1) (by rw [f1, c1e 46 6 (by omega) (by omega)]; omega) (by rw [e1, c1e 20 6 (by omega) (by omega), ← e1]; omega) (fun c2 kp1 => ?_)
  have kk := KK_of kp0 kp1
  clear kp0 kp1 c1e
  obtain ⟨kf, ks⟩ := kk
  apply sX5_perform_2 a0 hp
  refine ⟨fun _ => ?_, fun z => by omega⟩
  apply sX5_swapMarks_0 a0 g6.1 g6.2.1 g7.1 g7.2
  obtain ⟨w0, w3, w4, w5, w6, wf⟩ := swR_f (a := a) (b := b) (a' := a') (b' := b') a0
  show Z G mX5_perform (22 + 17) 0 0 41 [vr (some 40), vr (some p1), vi (0 + 1 + 1)] [] (mkC c2 (swR rv a b a' b')) _
  refine Z.fg (L' := [vr (some 40), vr (some p1), vu]) ⟨Or.inl rfl, Or.inl rfl, Or.inr rfl, trivial⟩ ?_
  have ab' : (a' = 50 ∧ b' = 51) ∨ (a' = 52 ∧ b' = 53) := by omega
  have mA' : mA a' b' (swR rv a b a' b') := ⟨w3, w4, ab'⟩
  apply sX5_perform_41 w0 hp
  apply sX5_forgetMarks_0 w0 w3 (mA_s mA').1
  show Z G mX5_perform (22 + 17) 0 0 45 [vr (some 40), vr (some p1), vu] [] (mkC (ifill c2 a' 0 8 (-1)) (swR rv a b a' b')) _
  apply sX5_perform_45 w0 hp
  -- the class at the beginning of a run
  have c3f : ∀ i j, ¬ (42 ≤ i ∧ i ≤ 48) ∧ ¬ ((i = 16 ∨ i = 20) ∧ (j = 4 ∨ j = 5 ∨ j = 6)) ∧ i ≠ a' ∧ ¬ (i = 40 ∧ 7 ≤ j ∧ j ≤ 10) → iu (iu (iu (iu (ifill c2 a' 0 8 (-1)) 40 7 0) 40 8 0) 40 9 0) 40 10 (-1) i j = c i j := fun i j q => by
    rw [iu_ap, if_neg (by omega), iu_ap, if_neg (by omega), iu_ap, if_neg (by omega), iu_ap, if_neg (by omega), ifill_row (by omega)]
    exact kf i j (by omega) (by omega)
  have c3k : ∀ i j, i ≠ a' ∧ i ≠ 40 → iu (iu (iu (iu (ifill c2 a' 0 8 (-1)) 40 7 0) 40 8 0) 40 9 0) 40 10 (-1) i j = c2 i j := fun i j q => by
    rw [iu_o q.2, iu_o q.2, iu_o q.2, iu_o q.2, ifill_row q.1]
  have c3a : ∀ j, j < 8 → iu (iu (iu (iu (ifill c2 a' 0 8 (-1)) 40 7 0) 40 8 0) 40 9 0) 40 10 (-1) a' j = -1 := fun j q => by
    rw [iu_o (by omega), iu_o (by omega), iu_o (by omega), iu_o (by omega), ifill_ap, if_pos ⟨rfl, by omega, q⟩]
  have c340 : iu (iu (iu (iu (ifill c2 a' 0 8 (-1)) 40 7 0) 40 8 0) 40 9 0) 40 10 (-1) 40 7 = 0 ∧ iu (iu (iu (iu (ifill c2 a' 0 8 (-1)) 40 7 0) 40 8 0) 40 9 0) 40 10 (-1) 40 8 = 0 ∧ iu (iu (iu (iu (ifill c2 a' 0 8 (-1)) 40 7 0) 40 8 0) 40 9 0) 40 10 (-1) 40 9 = 0 ∧ iu (iu (iu (iu (ifill c2 a' 0 8 (-1)) 40 7 0) 40 8 0) 40 9 0) 40 10 (-1) 40 10 = -1 := by
    refine ⟨?_, ?_, ?_, iu_eq⟩
    · rw [iu_k (by decide), iu_k (by decide), iu_k (by decide)]; exact iu_eq
    · rw [iu_k (by decide), iu_k (by decide)]; exact iu_eq
    · rw [iu_k (by decide)]; exact iu_eq
  generalize iu (iu (iu (iu (ifill c2 a' 0 8 (-1)) 40 7 0) 40 8 0) 40 9 0) 40 10 (-1) = c3 at *
  obtain ⟨t1, t2, t3, t4, t5, t6⟩ := st3_f (m := m)
  have hm3 : ∀ i j, ¬ (7 ≤ i ∧ i ≤ 15) ∧ ¬ (47 ≤ i ∧ i ≤ 54) ∧ ¬ (i = 0 ∧ (j = 20 ∨ (79 ≤ j ∧ j ≤ 81))) → st3 m i j = m i j := fun i j q => t1 i j (by omega)
  have mstart : ∀ (K : Option AV → AH → Prop), JZ G' 35 K 0 0 0 (st3 m) → Z G' mX12_run (35 + 5) 0 0 0 [vr (some 0), vu, vu, vu, vu, vu, vu, vu] [] (mkM m) K := fun K j => M_runStart n (LJ_of j mScr_r)
  generalize st3 m = m3 at *
  have b16 : c3 16 6 = c 16 6 + 1 := by rw [c3k 16 6 (by omega), ← e0]; exact (ks 0 (Or.inl rfl)).1.2.2
  have b20 : c3 20 6 = c 20 6 + 1 := by rw [c3k 20 6 (by omega), ← e1]; exact (ks 1 (Or.inr rfl)).1.2.2
  have i0 : RunI (B + 1) p1 a' b' c3 m3 (swR rv a b a' b') 0 := by
    refine ⟨⟨RS_f a3 (fun i j q => c3f i j (by omega)) (fun i j q => hm3 i j (by omega)), RR_B (RR_f a4 (fun j => c3f _ _ (by omega)) (hm3 _ _ (by omega)) (hm3 _ _ (by omega))) (by omega), ShR_f sh (fun i j x y => c3f i j (by omega)) (fun i j x y => wf i j (by omega)) (fun i j q => hm3 i j (by omega))⟩, ⟨fun s hs => ?_, ?_, ⟨by rw [c340.1, t5.1], Or.inl t5.1⟩, fun n n0 n1 => ?_⟩, ⟨c340.2.1, by omega⟩, ⟨by rw [c340.2.2.1, t5.2.1], by rw [c340.2.2.2, t5.2.2], by omega⟩, fun _ => by omega⟩
    · have so := sdA_c s
      have ts := t2 s hs
      have kss := (ks s hs).1
      have dd := ss s hs
      have x4 : c3 (sdA s) 4 = 0 := by rw [c3k _ _ (by omega)]; exact kss.1
      have x5 : c3 (sdA s) 5 = -1 := by rw [c3k _ _ (by omega)]; exact kss.2.1
      have x6 : c3 (sdA s) 6 = c (sdA s) 6 + 1 := by rw [c3k _ _ (by omega)]; exact kss.2.2
      refine ⟨⟨by rw [x4, ts.1], by omega, by rw [x5, ts.2.1], Or.inl ts.2.1, fun k k0 k1 => by omega⟩, SK_n dd.2.1.1 (c3f _ _ (by omega)) ?_, by omega⟩
      rw [x6, c3f 14 2 (by omega)]; omega
    · have := a7.1
      unfold bNow at *
      rw [c3f 24 9 (by omega), b16, b20, c3f 14 2 (by omega)]; omega
    · rw [c3a _ (by omega), (t4 _ (by omega)).1]
      exact ⟨rfl, fun q => absurd rfl q, fun _ => rfl⟩
  have hrv : swR rv a b a' b' p1 10 = hd p1 0 (m3 0 68) := by rw [wf p1 10 (by have := rv_p hp; omega), hm3 0 68 (by omega)]; exact sh.2.2.2.2.1
  rw [hrv]
  have e68 : m3 0 68 = m 0 68 := hm3 0 68 (by omega)
  refine C_doSteps 4 G 22 c3 m3 _ (swR rv a b a' b') (B + 1) p1 a' b' 0 0 (m3 0 68) 0 w0 mA' (by omega) i0 t5.2.1 (by decide) i0.1.2.2.2.2.2.1 (by decide) (by omega) (by rw [show (0 : Int).toNat = 0 from rfl, t6.1, e68]) (fun c' m' n' o => ?_)
  show Z G mX5_perform (22 + 17) 0 0 74 [vr (some 40), vr (some p1), vu] [] (mkC c' (swR rv a b a' b')) _
  obtain ⟨oj, oI, oF, oM, oS⟩ := o
  obtain ⟨⟨xs, xr, xh⟩, ⟨y1, y2, y3, y4⟩, -, z9, -⟩ := oI
  -- what the run did not touch
  have hc : ∀ i j, ¬ (42 ≤ i ∧ i ≤ 48) ∧ ¬ (16 ≤ i ∧ i ≤ 23) ∧ ¬ (i = a' ∨ i = b') ∧ ¬ (i = 40 ∧ 7 ≤ j ∧ j ≤ 10) → c' i j = c i j := fun i j q => by rw [oF i j (by omega) (by omega) (by omega)]; exact c3f i j (by omega)
  have hk : ∀ i j, 42 ≤ i ∧ i ≤ 48 → c' i j = c2 i j := fun i j q => by rw [oF i j (by omega) (by omega) (by omega)]; exact c3k i j (by omega)
  have hm : ∀ i j, ¬ (7 ≤ i ∧ i ≤ 15) ∧ ¬ (47 ≤ i ∧ i ≤ 54) ∧ ¬ (i = 0 ∧ (j = 20 ∨ (79 ≤ j ∧ j ≤ 81))) → m' i j = m i j := fun i j q => by rw [oM i j (by omega) (by omega) (by omega) (by omega) (by omega) (by omega) (by omega) (by omega) (by omega)]; exact hm3 i j q
  have hk3 : ∀ i j, (11 ≤ i ∧ i ≤ 14) ∨ i = 49 ∨ i = 50 → m' i j = m3 i j := fun i j q => oM i j (by omega) (by omega) (by omega) (by omega) (by omega) (by omega) (by omega) (by omega) (by omega)
  have q42 : c' 42 6 = c 42 6 + 1 := by rw [hk 42 6 (by omega), ← f0]; exact (ks 0 (Or.inl rfl)).2.1.2.2
  have q46 : c' 46 6 = c 46 6 + 1 := by rw [hk 46 6 (by omega), ← f1]; exact (ks 1 (Or.inr rfl)).2.1.2.2
  refine Z.fg (L' := [vr (some 40), vu, vu]) ⟨Or.inl rfl, Or.inr rfl, Or.inl rfl, trivial⟩ ?_
  apply sX5_perform_74 w0
  rw [z9.1]
  refine ⟨fun er => ?_, fun ok => ?_⟩
  · -- an error: all is put back
    have kp4 : ∀ s : Int, (s = 0 ∨ s = 1) → c' (kpA s) 4 = m 7 s.toNat ∧ c' (kpA s) 5 = m 10 s.toNat := fun s hs => by
      have ko := kpA_c s
      rw [hk _ _ (by omega), hk _ _ (by omega), (ks s hs).2.1.1, (ks s hs).2.1.2.1, (ss s hs).1.1, (ss s hs).1.2.2.1]; exact ⟨rfl, rfl⟩
    have u0 := y1 0 (Or.inl rfl)
    have u1 := y1 1 (Or.inr rfl)
    have n70 := (ss 0 (Or.inl rfl)).1.2.1
    have n71 := (ss 1 (Or.inr rfl)).1.2.1
    refine C_perf2 w0 (by decide) (by rw [(kp4 0 (Or.inl rfl)).1]; exact n70) (by have := u0.1.1; have := u0.1.2.1; omega) (fun c4 kq0 => ?_)
    refine C_perf2 (s := 1) w0 (by decide) ?_ ?_ (fun c5 kq1 => ?_)
    · rw [kq0.1 _ _ (by rw [f1, e0]; decide) (by rw [f1, e0]; decide) (by rw [f1, e0]; omega), (kp4 1 (Or.inr rfl)).1]; exact n71
    · rw [kq0.1 _ _ (by rw [e1, e0]; decide) (by rw [e1, e0]; decide) (by rw [e1, e0]; omega)]; have := u1.1.1; have := u1.1.2.1; omega
    have kr := KR_of kq0 kq1
    clear kq0 kq1
    obtain ⟨rf, rs⟩ := kr
    apply sX5_perform_85 w0
    refine ⟨fun _ => ?_, fun z => by omega⟩
    apply sX5_swapMarks_0 w0 w3 w4 w5 w6
    obtain ⟨v0, v3, v4, v5, v6, vf⟩ := swR_f (a := a') (b := b') (a' := a) (b' := b) w0
    show Z G mX5_perform (22 + 17) 0 0 115 [vr (some 40), vu, vi (0 + 1 + 1)] [] (mkC c5 (swR (swR rv a b a' b') a' b' a b)) _
    refine Z.fg (L' := [vu, vu, vu]) ⟨Or.inr rfl, Or.inl rfl, Or.inr rfl, trivial⟩ ?_
    apply sX5_perform_115 v0
    show Z G mX11_run (22 + 18) 0 0 25 [vr (some 0)] [vi 0] (mkC c5 (swR (swR rv a b a' b') a' b' a b)) _
    apply sX11_run_25 v0
    refine ⟨fun e => absurd rfl e, fun _ => ⟨_, _, rfl, mstart _ (oj _ _ _ ?_)⟩⟩
    intro v sv
    refine ⟨fun e => absurd e er, fun _ => ?_⟩
    have v79 : v 0 79 = m' 0 79 := sv 0 79 (by decide) (by omega)
    apply sX12_run_425
    refine ⟨fun e => by have := z9.2.2; omega, fun _ => M_keepT ?_⟩
    show Z G' mX12_run (35 + 5) 0 0 437 [vr (some 0), vu, vu, vu, vu, vu, vu, vu] [] (mkM (kpT v)) _
    apply sX12_run_437
    refine QM_i rfl (RL_B (B := B + 500) (RL_w (m := kpT v) ?_ (fun _ _ _ => rfl)) (by omega))
    -- the restored worlds
    obtain ⟨h1, h2, h3, h4⟩ := kpT_f (m := v)
    have hc5 : ∀ i j, ¬ (42 ≤ i ∧ i ≤ 48) ∧ ¬ (16 ≤ i ∧ i ≤ 23) ∧ ¬ (i = a' ∨ i = b') ∧ ¬ (i = 40 ∧ 7 ≤ j ∧ j ≤ 10) → c5 i j = c i j := fun i j q => by rw [rf i j (by omega)]; exact hc i j q
    have hm5 : ∀ i j, ¬ (7 ≤ i ∧ i ≤ 15) ∧ ¬ (47 ≤ i ∧ i ≤ 54) ∧ ¬ (i = 0 ∧ (j = 20 ∨ (79 ≤ j ∧ j ≤ 81))) → kpT v i j = m i j := fun i j q => by rw [h1 i j (by omega) (by omega) (by omega), sv i j (by omega) (by omega)]; exact hm i j q
    have m747 : ∀ s : Int, (s = 0 ∨ s = 1) → kpT v 7 s.toNat = m 7 s.toNat ∧ kpT v 10 s.toNat = m 10 s.toNat := fun s hs => by
      rw [(h2 _ (by omega)).1, (h2 _ (by omega)).2, sv 11 _ (by decide) (by omega), sv 14 _ (by decide) (by omega), hk3 11 _ (by omega), hk3 14 _ (by omega), (t2 s hs).2.2.1, (t2 s hs).2.2.2]; exact ⟨rfl, rfl⟩
    have m89 : ∀ j, j < 800 → kpT v 8 j = m 8 j ∧ kpT v 9 j = m 9 j := fun j q => by
      rw [(h3 j q).1, (h3 j q).2, sv 12 _ (by decide) (by omega), sv 13 _ (by decide) (by omega), hk3 12 _ (by omega), hk3 13 _ (by omega)]; exact t3 j q
    have m47 : ∀ j, j < 8 → kpT v 47 j = m 47 j ∧ kpT v 48 j = m 48 j := fun j q => by
      rw [(h4 j q).1, (h4 j q).2, sv 49 _ (by decide) (by omega), sv 50 _ (by decide) (by omega), hk3 49 _ (by omega), hk3 50 _ (by omega)]; exact (t4 j q).2
    have k79 : kpT v 0 79 = m' 0 79 ∧ kpT v 0 80 = m' 0 80 := by rw [h1 0 79 (by omega) (by decide) (by decide), h1 0 80 (by omega) (by decide) (by decide), v79, sv 0 80 (by decide) (by omega)]; exact ⟨rfl, rfl⟩
    generalize kpT v = m5 at *
    refine ⟨v0, ?_, RT_f a2 (fun i j q => hc5 i j (by omega)) (fun i j q => hm5 i j (by omega)), RS_f a3 (fun i j q => hc5 i j (by omega)) (fun i j q => hm5 i j (by omega)), RR_B (RR_f a4 (fun j => hc5 _ _ (by omega)) (hm5 _ _ (by omega)) (hm5 _ _ (by omega))) (by omega), RP_f a5 (fun i j q => hc5 i j (by omega)) (fun i j q => hm5 i j (by omega)), ⟨fun s hs => ?_, ?_, ?_⟩, ?_, RO_f a8 (fun i j q => hc5 i j (by omega)), RK_f a9 (fun i j q => hc5 i j (by omega)) (fun i j q => hm5 i j (by omega)), RN_f a10 (fun i j q => hc5 i j (by omega)) (fun i j q => hm5 i j (by omega)), RF_f a11 (fun i j q => hc5 i j (by omega)) (fun i j q => hm5 i j (by omega)), ⟨?_, ?_⟩, ⟨p1, p2, a, b, a', b', g1, ?_, ?_, ?_, fun _ => ?_, ⟨v3, v4, gab⟩, ⟨v5, v6⟩, g8, fun k k0 k1 => ?_, ?_⟩⟩
    · rw [hc5 0 17 (by omega), hm5 0 0 (by omega)]; exact a1
    · have so := sdA_c s
      have ko := kpA_c s
      obtain ⟨r7, ⟨r4, r5, r6⟩, rp⟩ := rs s hs
      obtain ⟨o1, o2, o3⟩ := y1 s hs
      have dd := (ss s hs).1
      have o4 := o1.1
      have o7 := o1.2.1
      refine ⟨⟨by rw [r4, (kp4 s hs).1, (m747 s hs).1], by rw [(m747 s hs).1]; exact dd.2.1, by rw [r5, (kp4 s hs).2, (m747 s hs).2], ?_, fun k k0 k1 => ?_⟩, SK_n o2.1 r7 ?_, by omega⟩
      · rw [(m747 s hs).1, (m747 s hs).2, hm5 0 4 (by omega), hm5 4 _ (by omega)]; exact dd.2.2.2.1
      · rw [(m747 s hs).1] at k1
        have l400 := dd.2.1
        have x := rp k k0 (by rw [(kp4 s hs).1]; exact k1)
        rw [x.1, x.2, hk _ _ (by omega), hk _ _ (by omega), ((ks s hs).2.2 k k0 (by rw [dd.1]; exact k1)).1, ((ks s hs).2.2 k k0 (by rw [dd.1]; exact k1)).2, (m89 _ (by omega)).1, (m89 _ (by omega)).2]
        exact dd.2.2.2.2 k k0 k1
      · rw [r6, rf 14 2 (by omega)]; omega
    · rw [rf 42 6 (by omega), q42]; omega
    · rw [rf 46 6 (by omega), q46]; omega
    · have r60 := (rs 0 (Or.inl rfl)).2.1.2.2
      have r61 := (rs 1 (Or.inr rfl)).2.1.2.2
      rw [e0] at r60
      rw [e1] at r61
      refine ⟨?_, fun e => ?_⟩
      · unfold bNow at *
        rw [rf 24 9 (by omega), r60, r61, rf 14 2 (by omega)]; omega
      · exfalso
        unfold bNow at *
        rw [rf 24 9 (by omega), r60, r61, rf 14 2 (by omega)] at e; omega
    · rw [hc5 0 14 (by omega), hc5 0 15 (by omega), hm5 0 49 (by omega), hm5 0 50 (by omega)]; exact a12.1
    · rw [rf 40 9 (by omega), rf 40 10 (by omega), k79.1, k79.2]; exact ⟨z9.1, z9.2.1⟩
    · rw [vf 0 11 (by omega), wf 0 11 (by omega)]; exact g2
    · rw [vf 0 12 (by omega), wf 0 12 (by omega)]; exact g3
    · rw [hc5 0 13 (by omega), hm5 0 52 (by omega)]; exact g4
    · exact ShR_f sh (fun i j x y => hc5 i j (by omega)) (fun i j x y => by rw [vf i j (by omega), wf i j (by omega)]) (fun i j q => hm5 i j (by omega))
    · rw [hc5 a _ (by omega), hc5 b _ (by omega), (m47 _ (by omega)).1, (m47 _ (by omega)).2, hm5 0 69 (by omega)]
      exact g9 k k0 k1
    · rw [hm5 0 69 (by omega)]; exact g10
  · -- the run is done
    show Z G mX11_run (22 + 18) 0 0 25 [vr (some 0)] [vi 1] (mkC c' (swR rv a b a' b')) _
    apply sX11_run_25 w0
    have u0 := (y1 0 (Or.inl rfl)).1
    have u1 := (y1 1 (Or.inr rfl)).1
    have u04 := u0.1
    have u14 := u1.1
    have u07 := u0.2.1
    have u17 := u1.2.1
    rw [e0] at u04
    rw [e1] at u14
    rw [show (0 : Int).toNat = 0 from rfl] at u04 u07
    rw [show (1 : Int).toNat = 1 from rfl] at u14 u17
    refine ⟨fun _ => ⟨by omega, _, _, rfl, mstart _ (oj _ _ _ ?_)⟩, fun e => by omega⟩
    have s0 := oS 0 (by decide) (by decide)
    rw [show (0 : Int).toNat = 0 from rfl] at s0
    refine J_last0 (by decide) ok (by rw [show (0 : Int).toNat = 0 from rfl, s0 52 (by decide) (by decide), t6.1, e68]) (by rw [show (0 : Int).toNat = 0 from rfl, s0 53 (by decide) (by decide), t6.2]; decide) ?_
    intro v sv
    refine ⟨fun _ => ?_, fun e => absurd ok e⟩
    have v79 : v 0 79 = m' 0 79 := sv 0 79 (by decide) (by omega)
    unfold LJ
    refine Z.fg (L' := [vr (some 0), vi n', vi (0 - 1), vi (m' 54 (0 : Int).toNat), vu, vu, vu, vu]) ⟨Or.inl rfl, Or.inl rfl, Or.inl rfl, Or.inl rfl, Or.inl rfl, Or.inl rfl, Or.inl rfl, Or.inl rfl, trivial⟩ ?_
    apply sX12_run_95
    refine ⟨fun _ => ?_, fun e => by omega⟩
    apply sX12_run_425
    have v7 : ∀ j, v 7 j = m' 7 j := fun j => sv 7 j (by decide) (by omega)
    rw [v7, v7, v79]
    refine ⟨fun _ => ⟨by omega, QM_i (by omega) (RL_B (B := B + 500) (RL_w (m := m') ?_ (fun i j q => ?_)) (by omega))⟩, fun e => by omega⟩
    · refine ⟨w0, ?_, RT_f a2 (fun i j q => hc i j (by omega)) (fun i j q => hm i j (by omega)), xs, RR_B xr (by omega), RP_f a5 (fun i j q => hc i j (by omega)) (fun i j q => hm i j (by omega)), ⟨fun s hs => ?_, by omega, by omega⟩, ⟨by omega, fun e => by omega⟩, RO_f a8 (fun i j q => hc i j (by omega)), RK_f a9 (fun i j q => hc i j (by omega)) (fun i j q => hm i j (by omega)), RN_f a10 (fun i j q => hc i j (by omega)) (fun i j q => hm i j (by omega)), RF_f a11 (fun i j q => hc i j (by omega)) (fun i j q => hm i j (by omega)), ⟨?_, z9.1, z9.2.1⟩, ⟨p1, p2, a', b', a, b, g1, ?_, ?_, ?_, fun _ => xh, mA', ⟨w5, w6⟩, by omega, y4, ?_⟩⟩
      · rw [hc 0 17 (by omega), hm 0 0 (by omega)]; exact a1
      · obtain ⟨o1, o2, o3⟩ := y1 s hs
        have := o1.1
        have := o1.2.1
        exact ⟨o1, o2, by omega⟩
      · rw [hc 0 14 (by omega), hc 0 15 (by omega), hm 0 49 (by omega), hm 0 50 (by omega)]; exact a12.1
      · rw [wf 0 11 (by omega)]; exact g2
      · rw [wf 0 12 (by omega)]; exact g3
      · rw [hc 0 13 (by omega), hm 0 52 (by omega)]; exact g4
      · rw [hm 0 69 (by omega)]; exact g10
    · unfold mS at q; exact sv i j (by omega) (by omega)

