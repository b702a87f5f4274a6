/-! ===== the public methods: marks ===== -/
theorem nthf_s {P : Int → Prop} [DecidablePred P] {k q b : Int} (h : q < b) : nthf P k q (b - q).toNat = if P q then (if k = 0 then q else nthf P (k - 1) (q + 1) (b - (q + 1)).toNat) else nthf P k (q + 1) (b - (q + 1)).toNat := by
  rw [show (b - q).toNat = (b - (q + 1)).toNat + 1 by omega]
  rfl
theorem C_nameOfMark {G : ZG} {d : Nat} {iv : Nat → Nat → Int} {K : Option AV → AH → Prop} {rv : Nat → Nat → Option Nat} {a : Nat} {x1 : Int} (hR : RC rv) (h3 : rv 40 3 = some a) (sa : ShC[a]? = some (.inr (0, 8))) (h0 : 0 ≤ x1) (k : K (some (vi (nthf (fun n => ¬ iv a n.toNat = -1) x1 0 8))) (mkC iv rv)) : Z G mX5_nameOfMark d 0 0 0 [vr (some 40), vi x1, vu, vu] [] (mkC iv rv) K := by
  apply sX5_nameOfMark_0 hR h3 sa
  refine lp_up (P := fun q (y : Int) => Z G mX5_nameOfMark d 0 0 4 [vr (some 40), vi x1, vi y, vi q] [] (mkC iv rv) K) 8 (fun q y => 0 ≤ q ∧ (0 ≤ y ∧ y ≤ q) ∧ nthf (fun n => ¬ iv a n.toNat = -1) x1 0 8 = nthf (fun n => ¬ iv a n.toNat = -1) (x1 - y) q (8 - q).toNat) ?_ ?_ 0 0 (by omega) ⟨by omega, by omega, by rw [show x1 - 0 = x1 by omega]; rfl⟩
  · rintro y ⟨-, -, e⟩
    apply sX5_nameOfMark_4 hR h3 sa
    refine ⟨fun _ => ?_, fun z => by omega⟩
    rw [e] at k; exact k
  · rintro q y hq ⟨q0, yq, e⟩ ih
    rw [nthf_s hq] at e
    apply sX5_nameOfMark_4 hR h3 sa
    refine ⟨fun z => by omega, fun _ => ⟨by omega, fun z => ⟨by omega, ih _ ⟨by omega, by omega, ?_⟩⟩, fun z => ⟨fun w => ⟨by omega, by omega, ih _ ⟨by omega, by omega, ?_⟩⟩, fun w => ?_⟩⟩⟩
    · rw [if_neg (fun n => n z)] at e; exact e
    · rw [if_pos z, if_neg (by omega)] at e
      rw [show x1 - (y + 1) = x1 - y - 1 by omega]; exact e
    · rw [if_pos z, if_pos (by omega)] at e
      rw [e] at k; exact k
theorem P_mark {G G' : ZG} {c m : Nat → Nat → Int} {rv : Nat → Nat → Option Nat} {B : Int} {x1 x2 : Int} (h : RL B c rv m) (hB : 0 ≤ B ∧ B ≤ 10000000) (hx1 : -2147483648 ≤ x1 ∧ x1 ≤ 2147483647) (hx2 : -2147483648 ≤ x2 ∧ x2 ≤ 2147483647) : Z G mX11_mark 40 0 0 0 [vr (some 0), vi x1, vi x2, vu] [] (mkC c rv) (QC G' mX12_mark [vr (some 0), vi x1, vi x2, vu, vu] m (B + 1000)) := by
  obtain ⟨a0, a1, a2, a3, a4, a5, a6, a7, a8, a9, a10, a11, a12, a13⟩ := id h
  obtain ⟨p1, p2, a, b, a', b', hx⟩ := a13
  obtain ⟨g1, g2, g3, g4, g5, g6, g7, g8, g9, g10⟩ := hx
  have sab := mA_s g6
  have eP : nthf (fun n => ¬ c a n.toNat = -1) x1 0 8 = nthf (fun n => ¬ m 47 n.toNat = -1) x1 0 8 := nthf_congr _ _ _ (fun j j0 j1 => by rw [(g9 j j0 (by omega)).1])
  have nr := nthf_r (P := fun n : Int => ¬ m 47 n.toNat = -1) 8 x1 0
  apply sX11_mark_0 a0 g6.1 sab.1 g6.2.1 sab.2
  have bad : ¬ (0 ≤ x1 ∧ 0 ≤ x2 ∧ x2 ≤ 1) → QC G' mX12_mark [vr (some 0), vi x1, vi x2, vu, vu] m (B + 1000) (some (vi (-1))) (mkC (iu c 0 17 1) rv) := fun n => ⟨_, rv, rfl, sX12_mark_0 ⟨fun _ => QM_u h, fun _ => ⟨fun _ => QM_u h, fun _ => ⟨fun _ => by omega, fun _ => QM_u h⟩⟩⟩⟩
  refine ⟨fun p => bad (by omega), fun p => ⟨fun q => C_nameOfMark a0 g6.1 sab.1 p ?_, fun q => bad (by omega)⟩⟩
  rw [eP]
  -- the model's loop
  have md : ∀ (Q : Option AV → AH → Prop), (nthf (fun n => ¬ m 47 n.toNat = -1) x1 0 8 = -1 → Q (some (vi (-1))) (mkM (iu m 0 0 6))) → (¬ nthf (fun n => ¬ m 47 n.toNat = -1) x1 0 8 = -1 → x2 = 0 → Q (some (vi (m 47 (nthf (fun n => ¬ m 47 n.toNat = -1) x1 0 8).toNat))) (mkM (iu m 0 0 0))) → (¬ nthf (fun n => ¬ m 47 n.toNat = -1) x1 0 8 = -1 → ¬ x2 = 0 → Q (some (vi (m 48 (nthf (fun n => ¬ m 47 n.toNat = -1) x1 0 8).toNat))) (mkM (iu m 0 0 0))) → Z G' mX12_mark (39 + 1) 0 0 0 [vr (some 0), vi x1, vi x2, vu, vu] [] (mkM m) Q := by
    intro Q k1 k2 k3
    apply sX12_mark_0
    refine ⟨fun z => by omega, fun _ => ⟨fun z => by omega, fun _ => ⟨fun _ => ?_, fun z => by omega⟩⟩⟩
    generalize hN : nthf (fun n => ¬ m 47 n.toNat = -1) x1 0 8 = N at *
    refine lp_up (P := fun q (y : Int) => Z G' mX12_mark (39 + 1) 0 0 24 [vr (some 0), vu, vi x2, vi y, vi q] [] (mkM m) Q) (m 0 69) (fun q y => 0 ≤ q ∧ (0 ≤ y ∧ y ≤ x1) ∧ N = nthf (fun n => ¬ m 47 n.toNat = -1) y q (8 - q).toNat) ?_ ?_ 0 x1 (by omega) ⟨by omega, by omega, hN.symm⟩
    · rintro y ⟨q0, -, e⟩
      apply sX12_mark_24
      refine ⟨fun _ => k1 ?_, fun z => by omega⟩
      rcases nthf_r (P := fun n : Int => ¬ m 47 n.toNat = -1) (8 - m 0 69).toNat y (m 0 69) with w | w
      · rw [e, w]
      · exact absurd ((g9 _ (by omega) (by omega)).2.2 w.1) w.2.2
    · rintro q y hq ⟨q0, yq, e⟩ ih
      rw [nthf_s (by omega)] at e
      apply sX12_mark_24
      refine ⟨fun z => by omega, fun _ => ⟨by omega, fun z => ⟨fun w => ⟨by omega, by omega, ih _ ⟨by omega, by omega, ?_⟩⟩, fun w => ⟨fun v => ⟨by omega, ?_⟩, fun v => ⟨by omega, ?_⟩⟩⟩, fun z => ⟨by omega, ih _ ⟨by omega, by omega, ?_⟩⟩⟩⟩
      · rw [if_pos z, if_neg w] at e
        rw [show y + (-1) = y - 1 by omega]; exact e
      · rw [if_pos z, if_pos w] at e
        rw [← e]; exact k3 (by omega) v
      · rw [if_pos z, if_pos w] at e
        rw [← e]; exact k2 (by omega) v
      · rw [if_neg (fun n => n z)] at e; exact e
  show Z G mX11_mark (39 + 1) 0 0 27 [vr (some 0), vi x1, vi x2, vu] [vi (nthf (fun n => ¬ m 47 n.toNat = -1) x1 0 8)] (mkC c rv) _
  refine Z.fg (L' := [vr (some 0), vu, vi x2, vu]) ⟨Or.inl rfl, Or.inr rfl, Or.inl rfl, Or.inl rfl, trivial⟩ ?_
  apply sX11_mark_27 a0 g6.1 sab.1 g6.2.1 sab.2
  generalize nthf (fun n => ¬ m 47 n.toNat = -1) x1 0 8 = N at *
  refine ⟨fun n => ⟨fun v => ⟨by omega, _, rv, rfl, ?_⟩, fun v => ⟨by omega, _, rv, rfl, ?_⟩⟩, fun n => ⟨_, rv, rfl, ?_⟩⟩
  · have nn : 0 ≤ N ∧ N < 8 ∧ ¬ m 47 N.toNat = -1 := by
      rcases nr with w | w
      · exact absurd w n
      · exact ⟨w.1, by omega, w.2.2⟩
    refine md _ (fun e => absurd e n) (fun _ e => absurd e v) (fun _ _ => ?_)
    rw [(g9 N nn.1 nn.2.1).2.1 nn.2.2]
    exact QM_u h
  · have nn : 0 ≤ N ∧ N < 8 := by
      rcases nr with w | w
      · exact absurd w n
      · exact ⟨w.1, by omega⟩
    refine md _ (fun e => absurd e n) (fun _ _ => ?_) (fun _ e => absurd v e)
    rw [(g9 N nn.1 nn.2).1]
    exact QM_u h
  · exact md _ (fun _ => QM_u h) (fun e => absurd n e) (fun e => absurd n e)
/-! ===== a run: what the model keeps ===== -/
def cp2 (m : Nat → Nat → Int) (a b a' b' k : Nat) : Nat → Nat → Int := fun i j => if i = a ∧ j < k then m a' j else if i = b ∧ j < k then m b' j else m i j
theorem cp2_0 {m : Nat → Nat → Int} {a b a' b' : Nat} : cp2 m a b a' b' 0 = m := by funext i j; unfold cp2; rw [if_neg (by omega), if_neg (by omega)]
theorem cp2_s {m : Nat → Nat → Int} {a b a' b' : Nat} {q : Int} (q0 : 0 ≤ q) (n1 : a ≠ b) (n2 : a' ≠ a ∧ a' ≠ b ∧ b' ≠ a ∧ b' ≠ b) : iu (iu (cp2 m a b a' b' q.toNat) a q.toNat (cp2 m a b a' b' q.toNat a' q.toNat)) b q.toNat (cp2 m a b a' b' q.toNat b' q.toNat) = cp2 m a b a' b' (q + 1).toNat := by
  have ea : cp2 m a b a' b' q.toNat a' q.toNat = m a' q.toNat := by unfold cp2; rw [if_neg (by omega), if_neg (by omega)]
  have eb : cp2 m a b a' b' q.toNat b' q.toNat = m b' q.toNat := by unfold cp2; rw [if_neg (by omega), if_neg (by omega)]
  rw [ea, eb]
  funext i j
  rw [iu_ap, iu_ap]
  unfold cp2
  by_cases hj : j = q.toNat
  · subst hj
    by_cases hb : i = b
    · subst hb; rw [if_pos ⟨rfl, rfl⟩, if_neg (by omega), if_pos (by omega)]
    · rw [if_neg (by omega)]
      by_cases ha : i = a
      · subst ha; rw [if_pos ⟨rfl, rfl⟩, if_pos (by omega)]
      · rw [if_neg (by omega), if_neg (by omega), if_neg (by omega), if_neg (by omega), if_neg (by omega)]
  · rw [if_neg (by omega), if_neg (by omega)]
    by_cases ha : i = a ∧ j < q.toNat
    · rw [if_pos ha, if_pos (by omega)]
    · rw [if_neg ha, if_neg (c := i = a ∧ j < (q + 1).toNat) (by omega)]
      by_cases hb : i = b ∧ j < q.toNat
      · rw [if_pos hb, if_pos (by omega)]
      · rw [if_neg hb, if_neg (by omega)]
def kpT (m : Nat → Nat → Int) : Nat → Nat → Int := cp2 (cp2 (cp2 m 7 10 11 14 2) 8 9 12 13 800) 47 48 49 50 8
def kpF (m : Nat → Nat → Int) : Nat → Nat → Int := cp2 (cp2 (cp2 m 11 14 7 10 2) 12 13 8 9 800) 49 50 47 48 8
theorem M_keepT {G : ZG} {d : Nat} {m : Nat → Nat → Int} {K : Option AV → AH → Prop} (k : K none (mkM (kpT m))) : Z G mX12_keep d 0 0 0 [vr (some 0), vi 1, vu] [] (mkM m) K := by
  unfold kpT at k
  apply sX12_keep_0t
  refine lp_up (P := fun q v => Z G mX12_keep d 0 0 2 [vr (some 0), vi 1, vi q] [] (mkM v) K) 2 (fun q v => 0 ≤ q ∧ v = cp2 m 7 10 11 14 q.toNat) ?_ ?_ 0 m (by omega) ⟨by omega, cp2_0.symm⟩
  · rintro v ⟨-, ev⟩
    have e2 : v = cp2 m 7 10 11 14 2 := ev
    apply sX12_keep_2t
    refine ⟨fun _ => ?_, fun z => by omega⟩
    refine lp_up (P := fun q u => Z G mX12_keep d 0 0 77 [vr (some 0), vi 1, vi q] [] (mkM u) K) 800 (fun q u => 0 ≤ q ∧ u = cp2 v 8 9 12 13 q.toNat) ?_ ?_ 0 v (by omega) ⟨by omega, cp2_0.symm⟩
    · rintro u ⟨-, eu⟩
      have e3 : u = cp2 v 8 9 12 13 800 := eu
      apply sX12_keep_77t
      refine ⟨fun _ => ?_, fun z => by omega⟩
      refine lp_up (P := fun q w => Z G mX12_keep d 0 0 154 [vr (some 0), vi 1, vi q] [] (mkM w) K) 8 (fun q w => 0 ≤ q ∧ w = cp2 u 47 48 49 50 q.toNat) ?_ ?_ 0 u (by omega) ⟨by omega, cp2_0.symm⟩
      · rintro w ⟨-, ew⟩
        have e4 : w = cp2 u 47 48 49 50 8 := ew
        apply sX12_keep_154t
        refine ⟨fun _ => ?_, fun z => by omega⟩
        rw [e4, e3, e2]; exact k
      · rintro q w hq ⟨q0, ew⟩ ih
        apply sX12_keep_154t
        refine ⟨fun z => by omega, fun _ => ⟨by omega, by omega, by omega, by omega, by omega, ih _ ⟨by omega, ?_⟩⟩⟩
        rw [ew]; exact cp2_s q0 (by decide) (by decide)
    · rintro q w hq ⟨q0, ew⟩ ih
      apply sX12_keep_77t
      refine ⟨fun z => by omega, fun _ => ⟨by omega, by omega, by omega, by omega, by omega, ih _ ⟨by omega, ?_⟩⟩⟩
      rw [ew]; exact cp2_s q0 (by decide) (by decide)
  · rintro q w hq ⟨q0, ew⟩ ih
    apply sX12_keep_2t
    refine ⟨fun z => by omega, fun _ => ⟨by omega, by omega, by omega, by omega, by omega, ih _ ⟨by omega, ?_⟩⟩⟩
    rw [ew]; exact cp2_s q0 (by decide) (by decide)
theorem M_keepF {G : ZG} {d : Nat} {m : Nat → Nat → Int} {K : Option AV → AH → Prop} (k : K none (mkM (kpF m))) : Z G mX12_keep d 0 0 0 [vr (some 0), vi 0, vu] [] (mkM m) K := by
  unfold kpF at k
  apply sX12_keep_0f
  refine lp_up (P := fun q v => Z G mX12_keep d 0 0 2 [vr (some 0), vi 0, vi q] [] (mkM v) K) 2 (fun q v => 0 ≤ q ∧ v = cp2 m 11 14 7 10 q.toNat) ?_ ?_ 0 m (by omega) ⟨by omega, cp2_0.symm⟩
  · rintro v ⟨-, ev⟩
    have e2 : v = cp2 m 11 14 7 10 2 := ev
    apply sX12_keep_2f
    refine ⟨fun _ => ?_, fun z => by omega⟩
    refine lp_up (P := fun q u => Z G mX12_keep d 0 0 77 [vr (some 0), vi 0, vi q] [] (mkM u) K) 800 (fun q u => 0 ≤ q ∧ u = cp2 v 12 13 8 9 q.toNat) ?_ ?_ 0 v (by omega) ⟨by omega, cp2_0.symm⟩
    · rintro u ⟨-, eu⟩
      have e3 : u = cp2 v 12 13 8 9 800 := eu
      apply sX12_keep_77f
      refine ⟨fun _ => ?_, fun z => by omega⟩
      refine lp_up (P := fun q w => Z G mX12_keep d 0 0 154 [vr (some 0), vi 0, vi q] [] (mkM w) K) 8 (fun q w => 0 ≤ q ∧ w = cp2 u 49 50 47 48 q.toNat) ?_ ?_ 0 u (by omega) ⟨by omega, cp2_0.symm⟩
      · rintro w ⟨-, ew⟩
        have e4 : w = cp2 u 49 50 47 48 8 := ew
        apply sX12_keep_154f
        refine ⟨fun _ => ?_, fun z => by omega⟩
        rw [e4, e3, e2]; exact k
      · rintro q w hq ⟨q0, ew⟩ ih
        apply sX12_keep_154f
        refine ⟨fun z => by omega, fun _ => ⟨by omega, by omega, by omega, by omega, by omega, ih _ ⟨by omega, ?_⟩⟩⟩
        rw [ew]; exact cp2_s q0 (by decide) (by decide)
    · rintro q w hq ⟨q0, ew⟩ ih
      apply sX12_keep_77f
      refine ⟨fun z => by omega, fun _ => ⟨by omega, by omega, by omega, by omega, by omega, ih _ ⟨by omega, ?_⟩⟩⟩
      rw [ew]; exact cp2_s q0 (by decide) (by decide)
  · rintro q w hq ⟨q0, ew⟩ ih
    apply sX12_keep_2f
    refine ⟨fun z => by omega, fun _ => ⟨by omega, by omega, by omega, by omega, by omega, ih _ ⟨by omega, ?_⟩⟩⟩
    rw [ew]; exact cp2_s q0 (by decide) (by decide)
theorem kpF_f {m : Nat → Nat → Int} : (∀ i j, ¬ (11 ≤ i ∧ i ≤ 14) → i ≠ 49 → i ≠ 50 → kpF m i j = m i j) ∧ (∀ j, j < 2 → kpF m 11 j = m 7 j ∧ kpF m 14 j = m 10 j) ∧ (∀ j, j < 800 → kpF m 12 j = m 8 j ∧ kpF m 13 j = m 9 j) ∧ (∀ j, j < 8 → kpF m 49 j = m 47 j ∧ kpF m 50 j = m 48 j) := by
  unfold kpF cp2
  refine ⟨fun i j a b c => ?_, fun j a => ?_, fun j a => ?_, fun j a => ?_⟩
  · rw [if_neg (by omega), if_neg (by omega), if_neg (by omega), if_neg (by omega), if_neg (by omega), if_neg (by omega)]
  · simp [a]
  · simp [a]
  · simp [a]
theorem kpT_f {m : Nat → Nat → Int} : (∀ i j, ¬ (7 ≤ i ∧ i ≤ 10) → i ≠ 47 → i ≠ 48 → kpT m i j = m i j) ∧ (∀ j, j < 2 → kpT m 7 j = m 11 j ∧ kpT m 10 j = m 14 j) ∧ (∀ j, j < 800 → kpT m 8 j = m 12 j ∧ kpT m 9 j = m 13 j) ∧ (∀ j, j < 8 → kpT m 47 j = m 49 j ∧ kpT m 48 j = m 50 j) := by
  unfold kpT cp2
  refine ⟨fun i j a b c => ?_, fun j a => ?_, fun j a => ?_, fun j a => ?_⟩
  · rw [if_neg (by omega), if_neg (by omega), if_neg (by omega), if_neg (by omega), if_neg (by omega), if_neg (by omega)]
  · simp [a]
  · simp [a]
  · simp [a]

