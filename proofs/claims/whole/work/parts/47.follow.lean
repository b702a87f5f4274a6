/-! ===== following: the class ===== -/
theorem isF_congr {n lb rg rg' : Int} {pl pl' : Int → Int} {part push b : Int} (h : ∀ p, 0 ≤ p → p < alN n lb → pO n rg pl p = pO n rg' pl' p) (hp : 0 ≤ part ∧ part < alN n lb) (q : isF n lb rg pl part push b) : isF n lb rg' pl' part push b := by
  refine ⟨q.1, fun p a c e => ?_⟩
  have := q.2 p a c e
  rw [h b q.1.1 q.1.2.1, h part hp.1 hp.2, h p a c] at this
  exact this
theorem pO_congr {n lb rg rg' : Int} {pl pl' : Int → Int} (h : ∀ k, 0 ≤ k → k < n → pl k = pl' k) (hr : lb = -1 ∨ rg = rg') : ∀ p, 0 ≤ p → p < alN n lb → pO n rg pl p = pO n rg' pl' p := by
  intro p a b
  unfold pO
  split
  · rename_i c; exact h p a c
  · rename_i c
    rcases hr with e | e
    · unfold alN at b; rw [if_pos e] at b; omega
    · exact e
theorem pT_congr {n lb rg rg' : Int} {pl pl' kn kn' : Int → Int} (hn : 0 ≤ n) (h : ∀ k, 0 ≤ k → k < n → pl k = pl' k) (hr : lb = -1 ∨ rg = rg') (hk : ∀ t, kn t = kn' t) : ∀ t, pT n lb rg pl kn t = pT n lb rg' pl' kn' t
  | 0 => rfl
  | t + 1 => by
    have ih := pT_congr hn h hr hk t
    rw [pT_k, pT_k, ← ih, ← hk]
    have r := pT_r (lb := lb) (rg := rg) (pl := pl) (kn := kn) hn t
    generalize pT n lb rg pl kn t = p at *
    congr 1
    split
    · rename_i c
      have q := fl_ex (rg := rg) (pl := pl) (push := kn t) (r.resolve_left c.1)
      exact (fl_is (isF_congr (pO_congr h hr) (r.resolve_left c.1) q)).symm
    · rfl
theorem plB_congr {n lb rg rg' : Int} {pl pl' kn kn' : Int → Int} (hn : 0 ≤ n) (h : ∀ k, 0 ≤ k → k < n → pl k = pl' k) (hr : lb = -1 ∨ rg = rg') (hk : ∀ t, kn t = kn' t) (t : Nat) (j : Int) : plB n lb rg pl kn t j ↔ plB n lb rg' pl' kn' t j := by
  unfold plB
  constructor
  · rintro ⟨s, a, b⟩; exact ⟨s, a, by rw [← pT_congr hn h hr hk]; exact b⟩
  · rintro ⟨s, a, b⟩; exact ⟨s, a, by rw [pT_congr hn h hr hk]; exact b⟩
def sK (f : Nat → Int) (m : Int) : Prop := ∀ i j : Int, 0 ≤ i → i < j → j < m → f i.toNat < f j.toNat
theorem knv_at {f g : Nat → Int} {m k : Int} (hs : sK f m) (hk : 0 ≤ k ∧ k < m) : knv f g m (f k.toNat) = g k.toNat := by
  have e : knI f m (f k.toNat) = k := by
    rcases knI_r (f := f) (t := f k.toNat) (show 0 ≤ m by omega) with q | ⟨a, b⟩
    · unfold knI at q
      rw [ffirst_none _ _ (Int.le_refl _)] at q
      exact absurd rfl (q k hk.1 (by omega))
    · generalize knI f m (f k.toNat) = i at a b
      rcases Int.lt_trichotomy i k with c | c | c
      · have := hs i k a.1 c hk.2; omega
      · exact c
      · have := hs k i hk.1 c a.2; omega
  unfold knv
  rw [e, if_neg (by omega)]
theorem knv_no {f g : Nat → Int} {m t : Int} (hm : 0 ≤ m) (h : ∀ k : Int, 0 ≤ k → k < m → f k.toNat ≠ t) : knv f g m t = 1000 := by
  have e : knI f m t = -1 := by
    unfold knI
    rw [ffirst_none _ _ (Int.le_refl _)]
    intro k a b
    exact h k a (by omega)
  unfold knv
  rw [if_pos e]
theorem plB_on {n lb rg : Int} {pl kn : Int → Int} {t m : Nat} {j : Int} (hn : 0 ≤ n) (h : 0 ≤ pT n lb rg pl kn t ∧ pT n lb rg pl kn t < alN n lb) (no : ∀ i : Int, (t : Int) ≤ i → i < t + m → kn i = 1000) (hj : 0 ≤ j ∧ j < n) : plB n lb rg pl kn (t + m + 1) j ↔ (plB n lb rg pl kn t j ∨ (pT n lb rg pl kn t ≤ j ∧ j ≤ pT n lb rg pl kn t + m)) := by
  have on := fun i q => pT_on hn h i (fun x a b => no x a (show x < t + m by have : i ≤ m := q; omega))
  constructor
  · rintro ⟨s, hs, e⟩
    by_cases g : s < t
    · exact Or.inl ⟨s, g, e⟩
    · right
      obtain ⟨i, ei⟩ : ∃ i, s = t + i := ⟨s - t, by omega⟩
      subst ei
      rw [on i (by omega)] at e
      unfold ah at e
      split at e
      · omega
      · split at e
        · omega
        · omega
  · rintro (⟨s, hs, e⟩ | ⟨a, b⟩)
    · exact ⟨s, by omega, e⟩
    · refine ⟨t + (j - pT n lb rg pl kn t).toNat, by omega, ?_⟩
      rw [on _ (by omega)]
      unfold ah
      rw [if_pos (by omega)]
      omega
theorem plB_end {n lb rg : Int} {pl kn : Int → Int} {t u : Nat} {j : Int} (h : pT n lb rg pl kn t = -1) (hj : 0 ≤ j) (hu : t ≤ u) : plB n lb rg pl kn u j ↔ plB n lb rg pl kn t j := by
  constructor
  · rintro ⟨s, hs, e⟩
    by_cases g : s < t
    · exact ⟨s, g, e⟩
    · have := pT_m1 h (s - t)
      rw [show t + (s - t) = s by omega] at this
      omega
  · rintro ⟨s, hs, e⟩
    exact ⟨s, by omega, e⟩
theorem C_followL {G : ZG} {d : Nat} {w : Nat → Nat → Int} {K : Option AV → AH → Prop} {rv : Nat → Nat → Option Nat} {o1 : Nat} {x3 x4 : Int} (hR : RC rv) (h1 : isSd o1) (hn : 0 ≤ w o1 4 ∧ w o1 4 ≤ 400) (hp : ∀ k : Int, 0 ≤ k → k < w o1 4 → 0 ≤ w (o1 + 3) k.toNat ∧ w (o1 + 3) k.toNat ≤ 200000) (hr : w o1 5 = -1 ∨ (0 ≤ x4 ∧ x4 ≤ 200000)) (h0 : w o1 4 = 0 → w o1 5 = -1) (hk : kOk (w 37) (w 38) (w 36 3)) (ht : ∀ k : Int, 0 ≤ k → k < w 36 3 → 0 ≤ w 37 k.toNat ∧ w 37 k.toNat ≤ 10000) (hs : sK (w 37) (w 36 3)) (h3 : 0 ≤ x3 ∧ x3 ≤ 20000) (hz : ∀ j : Int, 0 ≤ j → j < w o1 4 → w 39 j.toNat = 0) (k : ∀ v : Nat → Nat → Int, (∀ i, i ≠ 39 → v i = w i) → (∀ j : Int, 0 ≤ j → j < w o1 4 → v 39 j.toNat = c01 (plB (w o1 4) (w o1 5) x4 (fun k => w (o1 + 3) k.toNat) (knv (w 37) (w 38) (w 36 3)) (x3.toNat + 1) j)) → K (some (vi (pT (w o1 4) (w o1 5) x4 (fun k => w (o1 + 3) k.toNat) (knv (w 37) (w 38) (w 36 3)) x3.toNat))) (mkC v rv)) : Z G mX2_follow (d + 4) 0 0 27 [vr (some 36), vr (some o1), vu, vi x3, vi x4, vi 0, vi 0, vi 0] [] (mkC w rv) K := by
  have n39 : o1 ≠ 39 ∧ o1 + 3 ≠ 39 := by rcases h1 with e | e | e | e <;> subst e <;> decide
  by_cases z : w o1 4 = 0
  · have lb := h0 z
    have am : ∀ x : Int, 0 ≤ x → ah (w o1 4) (w o1 5) 0 x = -1 := by
      intro x a; unfold ah; rw [if_neg (by omega), if_pos lb]
    have pm : pT (w o1 4) (w o1 5) x4 (fun k => w (o1 + 3) k.toNat) (knv (w 37) (w 38) (w 36 3)) x3.toNat = -1 := by
      have := pT_m1 (n := w o1 4) (lb := w o1 5) (rg := x4) (pl := fun k => w (o1 + 3) k.toNat) (kn := knv (w 37) (w 38) (w 36 3)) (t := 0) (by unfold pT; rw [if_pos z]) x3.toNat
      rw [Nat.zero_add] at this
      exact this
    rw [pm] at k
    have fin : ∀ v : Nat → Nat → Int, (∀ i, i ≠ 39 → v i = w i) → K (some (vi (-1))) (mkC v rv) := fun v f => k v f (fun j a b => by omega)
    apply sX2_follow_27 hR h1
    refine ⟨fun a => ⟨by omega, hn, by omega, by omega, fun v c => ?_⟩, fun a => ⟨by have := hk.1; omega, fun b => ⟨by omega, hn, by omega, by omega, fun v c => ?_⟩, fun b => ?_⟩⟩
    · rw [am _ (by omega)]; exact fin v c.1
    · rw [am _ (by omega)]; exact fin v c.1
    · have t0 := ht 0 (by omega) a
      rw [am _ (by omega)]
      exact ⟨by have := hk.1; omega, by omega, hn, by omega, by omega, fun v c => ⟨fun q => absurd rfl q, fun _ => fin v c.1⟩⟩
  · have p0 : pT (w o1 4) (w o1 5) x4 (fun k => w (o1 + 3) k.toNat) (knv (w 37) (w 38) (w 36 3)) 0 = 0 := by unfold pT; rw [if_neg z]
    have pr := pT_r (lb := w o1 5) (rg := x4) (pl := fun k => w (o1 + 3) k.toNat) (kn := knv (w 37) (w 38) (w 36 3)) hn.1
    have pon := fun t => pT_on (n := w o1 4) (lb := w o1 5) (rg := x4) (pl := fun k => w (o1 + 3) k.toNat) (kn := knv (w 37) (w 38) (w 36 3)) (t := t) hn.1
    have bon := fun t m j => plB_on (n := w o1 4) (lb := w o1 5) (rg := x4) (pl := fun k => w (o1 + 3) k.toNat) (kn := knv (w 37) (w 38) (w 36 3)) (t := t) (m := m) (j := j) hn.1
    have bend := fun t u j => plB_end (n := w o1 4) (lb := w o1 5) (rg := x4) (pl := fun k => w (o1 + 3) k.toNat) (kn := knv (w 37) (w 38) (w 36 3)) (t := t) (u := u) (j := j)
    have pm1 := fun t => pT_m1 (n := w o1 4) (lb := w o1 5) (rg := x4) (pl := fun k => w (o1 + 3) k.toNat) (kn := knv (w 37) (w 38) (w 36 3)) (t := t)
    have pk := fun t => pT_k (n := w o1 4) (lb := w o1 5) (rg := x4) (pl := fun k => w (o1 + 3) k.toNat) (kn := knv (w 37) (w 38) (w 36 3)) (t := t)
    have bS := fun t j => plB_s (n := w o1 4) (lb := w o1 5) (rg := x4) (pl := fun k => w (o1 + 3) k.toNat) (kn := knv (w 37) (w 38) (w 36 3)) (t := t) (j := j)
    have fe := fun part push => fl_ex (n := w o1 4) (lb := w o1 5) (rg := x4) (pl := fun k => w (o1 + 3) k.toNat) (part := part) (push := push)
    have b0 : ∀ j, ¬ plB (w o1 4) (w o1 5) x4 (fun k => w (o1 + 3) k.toNat) (knv (w 37) (w 38) (w 36 3)) 0 j := by rintro j ⟨s, hs, -⟩; omega
    have kat := fun i q => knv_at (g := w 38) hs (k := i) q
    have kno := fun t q => knv_no (f := w 37) (g := w 38) (t := t) hk.1.1 q
    have ar : alN (w o1 4) (w o1 5) ≤ 408 := by unfold alN; split <;> omega
    generalize hT : pT (w o1 4) (w o1 5) x4 (fun k => w (o1 + 3) k.toNat) (knv (w 37) (w 38) (w 36 3)) = T at *
    generalize hB : plB (w o1 4) (w o1 5) x4 (fun k => w (o1 + 3) k.toNat) (knv (w 37) (w 38) (w 36 3)) = B at *
    generalize hN : knv (w 37) (w 38) (w 36 3) = kn at *
    have fin : ∀ (part fr to : Int) (v v3 : Nat → Nat → Int), (0 ≤ fr ∧ fr ≤ to) → (∀ i : Int, fr ≤ i → i < to → kn i = 1000) → (part = T fr.toNat ∧ 0 ≤ part ∧ part < alN (w o1 4) (w o1 5)) → (∀ i, i ≠ 39 → v i = w i) → (∀ j : Int, 0 ≤ j → j < w o1 4 → v 39 j.toNat = c01 (B fr.toNat j)) → ((∀ i, i ≠ 39 → v3 i = v i) ∧ (∀ j : Int, 0 ≤ j → j < w o1 4 → v3 39 j.toNat = if part ≤ j ∧ j ≤ part + (to - fr) then 1 else v 39 j.toNat)) → (∀ i, i ≠ 39 → v3 i = w i) ∧ (∀ j : Int, 0 ≤ j → j < w o1 4 → v3 39 j.toNat = c01 (B (to.toNat + 1) j)) ∧ T to.toNat = ah (w o1 4) (w o1 5) part (to - fr) := by
      intro part fr to v v3 hf no hpt f m c
      have rg : 0 ≤ T fr.toNat ∧ T fr.toNat < alN (w o1 4) (w o1 5) := by rw [← hpt.1]; exact hpt.2
      have no' : ∀ i : Int, ((fr.toNat : Nat) : Int) ≤ i → i < (fr.toNat : Int) + ((to - fr).toNat : Int) → kn i = 1000 := fun i a b => no i (by omega) (by omega)
      refine ⟨fun i a => by rw [c.1 i a]; exact f i a, fun j a b => ?_, ?_⟩
      · rw [c.2 j a b, m j a b]
        have e := bon fr.toNat (to - fr).toNat j rg no' ⟨a, b⟩
        rw [show fr.toNat + (to - fr).toNat + 1 = to.toNat + 1 by omega, ← hpt.1, show part + (((to - fr).toNat : Nat) : Int) = part + (to - fr) by omega] at e
        by_cases g : part ≤ j ∧ j ≤ part + (to - fr)
        · rw [if_pos g]; exact (c01_t (e.mpr (Or.inr g))).symm
        · rw [if_neg g]
          exact c01_c ⟨fun q => e.mpr (Or.inl q), fun q => (e.mp q).resolve_right g⟩
      · have e := pon fr.toNat rg (to - fr).toNat no'
        rw [show fr.toNat + (to - fr).toNat = to.toNat by omega, ← hpt.1, show (((to - fr).toNat : Nat) : Int) = to - fr by omega] at e
        exact e
    refine lp_up (σ := Int × Int × (Nat → Nat → Int)) (P := fun q s => Z G mX2_follow (d + 4) 0 0 27 [vr (some 36), vr (some o1), vu, vi x3, vi x4, vi s.1, vi s.2.1, vi q] [] (mkC s.2.2 rv) K) (w 36 3) (fun q s => 0 ≤ q ∧ (0 ≤ s.2.1 ∧ s.2.1 ≤ x3) ∧ (∀ i : Int, q ≤ i → i < w 36 3 → s.2.1 ≤ w 37 i.toNat) ∧ (∀ i : Int, 0 ≤ i → i < q → w 37 i.toNat < s.2.1) ∧ (s.1 = T s.2.1.toNat ∧ 0 ≤ s.1 ∧ s.1 < alN (w o1 4) (w o1 5)) ∧ (∀ i, i ≠ 39 → s.2.2 i = w i) ∧ (∀ j : Int, 0 ≤ j → j < w o1 4 → s.2.2 39 j.toNat = c01 (B s.2.1.toNat j))) ?_ ?_ 0 (0, 0, w) hk.1.1 ⟨by omega, by dsimp only; omega, fun i a b => (ht i a b).1, fun i a b => by omega, ⟨p0.symm, by dsimp only; have := pr 0; omega⟩, fun _ _ => rfl, fun j a b => by dsimp only; rw [hz j a b]; exact (c01_f (b0 j)).symm⟩
    · rintro ⟨part, fr, v⟩ ⟨-, hf, hge, hlt, hpt, f, m⟩
      dsimp only at *
      apply sX2_follow_27 hR h1
      have no : ∀ i : Int, fr ≤ i → i < x3 → kn i = 1000 := fun i a b => kno i (fun q q0 q1 e => by have := hlt q q0 q1; omega)
      rw [f 36 (by decide), f o1 n39.1]
      refine ⟨fun _ => ⟨by omega, hn, by omega, by omega, fun v3 c => ?_⟩, fun a => by omega⟩
      obtain ⟨c1, c2, c3⟩ := fin part fr x3 v v3 hf no hpt f m c
      rw [← c3]; exact k v3 c1 c2
    · rintro q ⟨part, fr, v⟩ hq ⟨q0, hf, hge, hlt, hpt, f, m⟩ ih
      dsimp only at *
      have tq := ht q q0 hq
      have gq := hge q (Int.le_refl _) hq
      have m16 := hk.1
      apply sX2_follow_27 hR h1
      rw [f 36 (by decide), f 37 (by decide), f o1 n39.1]
      refine ⟨fun a => by omega, fun _ => ⟨by omega, fun a => ⟨by omega, hn, by omega, by omega, fun v3 c => ?_⟩, fun a => ⟨by omega, by omega, hn, by omega, by omega, fun v3 c => ?_⟩⟩⟩
      · have no : ∀ i : Int, fr ≤ i → i < x3 → kn i = 1000 := fun i a1 a2 => kno i (fun e e0 e1 ee => by
          by_cases g : e < q
          · have := hlt e e0 g; omega
          · by_cases g2 : e = q
            · subst g2; omega
            · have := hs q e q0 (by omega) e1; omega)
        obtain ⟨c1, c2, c3⟩ := fin part fr x3 v v3 hf no hpt f m c
        rw [← c3]; exact k v3 c1 c2
      · have no : ∀ i : Int, fr ≤ i → i < w 37 q.toNat → kn i = 1000 := fun i a1 a2 => kno i (fun e e0 e1 ee => by
          by_cases g : e < q
          · have := hlt e e0 g; omega
          · by_cases g2 : e = q
            · subst g2; omega
            · have := hs q e q0 (by omega) e1; omega)
        obtain ⟨c1, c2, c3⟩ := fin part fr (w 37 q.toNat) v v3 ⟨hf.1, gq⟩ no hpt f m c
        rw [← c3]
        have ktq := kat q ⟨q0, hq⟩
        have pr1 := pr (w 37 q.toNat).toNat
        have pk1 := pk (w 37 q.toNat).toNat
        rw [show (((w 37 q.toNat).toNat : Nat) : Int) = w 37 q.toNat by omega] at pk1
        have pu := hk.2 q q0 hq
        have eb : ∀ b : Int, isF (w o1 4) (w o1 5) x4 (fun k => w (o1 + 3) k.toNat) (T (w 37 q.toNat).toNat) (w 38 q.toNat) b → T (w 37 q.toNat).toNat ≠ -1 → T ((w 37 q.toNat).toNat + 1) = ah (w o1 4) (w o1 5) b 1 := by
          intro b hb n1
          rw [pk1, ktq, if_pos ⟨n1, by omega⟩, fl_is hb]
          have := ah_s (n := w o1 4) (lb := w o1 5) (p := b) (m := 0) hn.1 hb.1.1 (Int.le_refl _)
          rw [ah_0 ⟨hb.1.1, hb.1.2.1⟩] at this
          exact this
        rw [c1 o1 n39.1, c1 (o1 + 3) n39.2, c1 38 (by decide), c1 37 (by decide)]
        refine ⟨fun n1 => ⟨by omega, hn, hp, hr, pr1.resolve_left n1, pu, fun b hb => ?_⟩, fun n1 => ?_⟩
        · have e := eb b hb n1
          refine ⟨hn, by have := hb.1; omega, by omega, fun n2 => ?_, fun n2 => ?_⟩
          · refine ⟨by omega, by omega, by omega, ih (ah (w o1 4) (w o1 5) b 1, w 37 q.toNat + 1, v3) ?_⟩
            dsimp only
            rw [show (w 37 q.toNat + 1).toNat = (w 37 q.toNat).toNat + 1 by omega, ← e]
            rw [← e] at n2
            refine ⟨by omega, by omega, fun i a1 a2 => ?_, fun i a1 a2 => ?_, ⟨rfl, (pr _).resolve_left n2⟩, c1, c2⟩
            · have := hs q i q0 (by omega) a2; omega
            · by_cases g : i = q
              · subst g; omega
              · have := hs i q a1 (by omega) hq; omega
          · rw [← e] at n2
            have e2 := pm1 _ n2 (x3.toNat - ((w 37 q.toNat).toNat + 1))
            rw [show (w 37 q.toNat).toNat + 1 + (x3.toNat - ((w 37 q.toNat).toNat + 1)) = x3.toNat by omega] at e2
            rw [e2] at k
            refine k v3 c1 (fun j j0 j1 => ?_)
            rw [c2 j j0 j1]
            exact c01_c (bend _ _ j n2 j0 (by omega)).symm
        · have e2 := pm1 _ n1 (x3.toNat - (w 37 q.toNat).toNat)
          rw [show (w 37 q.toNat).toNat + (x3.toNat - (w 37 q.toNat).toNat) = x3.toNat by omega] at e2
          rw [e2] at k
          refine k v3 c1 (fun j j0 j1 => ?_)
          rw [c2 j j0 j1]
          have e3 := pm1 _ n1 1
          exact c01_c (bend _ _ j e3 j0 (by omega)).symm

